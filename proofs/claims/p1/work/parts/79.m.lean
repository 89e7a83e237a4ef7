set_option maxHeartbeats 4000000 in
set_option maxRecDepth 100000 in
theorem kpX16_passesFurther_b55 {h : pm_H} {x0 : Nat} {x1 : Int64} {r : pm_H} (hf : fX16_passesFurther_b55 h x0 x1 = some r) : pm_S3 r h := by
  unfold fX16_passesFurther_b55 at hf
  have K0 := pm_S3.rf h
  obtain ⟨k18, hf⟩ := pm_if hf
  by_cases c19 : x1 = 10
  · have hf := pm_it hf c19
    obtain ⟨y20, e21, hf⟩ := pm_lt hf
    cases hf
    exact K0
  · have hf := pm_ie hf c19
    by_cases c22 : x1 = 8
    · have hf := pm_it hf c22
      obtain ⟨y23, e24, hf⟩ := pm_lt hf
      cases hf
      exact K0
    · have hf := pm_ie hf c22
      by_cases c25 : x1 = 11
      · have hf := pm_it hf c25
        obtain ⟨y26, e27, hf⟩ := pm_lt hf
        cases hf
        exact K0
      · have hf := pm_ie hf c25
        obtain ⟨y28, e29, hf⟩ := pm_lt hf
        cases hf
        exact K0
set_option maxHeartbeats 4000000 in
set_option maxRecDepth 100000 in
theorem kpX16_passesFurther_b50 {h : pm_H} {x0 : Nat} {x1 : Int64} {r : pm_H} (hf : fX16_passesFurther_b50 h x0 x1 = some r) : pm_S3 r h := by
  unfold fX16_passesFurther_b50 at hf
  have K0 := pm_S3.rf h
  obtain ⟨k14, hf⟩ := pm_if hf
  obtain ⟨v15, e16, hf⟩ := pm_bd hf
  have K17 := pm_S3.trans (kpX16_word e16) K0
  exact pm_S3.trans (kpX16_passesFurther_b55 hf) K17
set_option maxHeartbeats 4000000 in
set_option maxRecDepth 100000 in
theorem kpX16_passesFurther_b26 {h : pm_H} {x0 : Nat} {x1 : Int64} {r : pm_H} (hf : fX16_passesFurther_b26 h x0 x1 = some r) : pm_S3 r h := by
  unfold fX16_passesFurther_b26 at hf
  have K0 := pm_S3.rf h
  by_cases c11 : x1 = 8
  · have hf := pm_it hf c11
    exact pm_S3.trans (kpX16_passesFurther_b50 hf) K0
  · have hf := pm_ie hf c11
    by_cases c12 : x1 = 9
    · have hf := pm_it hf c12
      exact pm_S3.trans (kpX16_passesFurther_b50 hf) K0
    · have hf := pm_ie hf c12
      by_cases c13 : x1 ≤ 11
      · have hf := pm_it hf c13
        exact pm_S3.trans (kpX16_passesFurther_b55 hf) K0
      · have hf := pm_ie hf c13
        exact pm_S3.trans (kpX16_passesFurther_b50 hf) K0
set_option maxHeartbeats 4000000 in
set_option maxRecDepth 100000 in
theorem kpX16_passesFurther_b21 {h : pm_H} {x0 : Nat} {x1 : Int64} {r : pm_H} (hf : fX16_passesFurther_b21 h x0 x1 = some r) : pm_S3 r h := by
  unfold fX16_passesFurther_b21 at hf
  have K0 := pm_S3.rf h
  obtain ⟨k7, hf⟩ := pm_if hf
  obtain ⟨v8, e9, hf⟩ := pm_bd hf
  have K10 := pm_S3.trans (kpX16_word e9) K0
  exact pm_S3.trans (kpX16_passesFurther_b26 hf) K10
set_option maxHeartbeats 4000000 in
set_option maxRecDepth 100000 in
theorem kpX16_passesFurther {h : pm_H} {a0 : Nat} {r : pm_H} (hf : fX16_passesFurther h a0 = some r) : pm_S3 r h := by
  unfold fX16_passesFurther at hf
  have K0 := pm_S3.rf h
  obtain ⟨k1, hf⟩ := pm_if hf
  obtain ⟨v2, e3, hf⟩ := pm_bd hf
  have K4 := pm_S3.trans (kpX16_word e3) K0
  by_cases c5 : v2.1 = 12
  · have hf := pm_it hf c5
    exact pm_S3.trans (kpX16_passesFurther_b21 hf) K4
  · have hf := pm_ie hf c5
    by_cases c6 : v2.1 = 14
    · have hf := pm_it hf c6
      exact pm_S3.trans (kpX16_passesFurther_b21 hf) K4
    · have hf := pm_ie hf c6
      exact pm_S3.trans (kpX16_passesFurther_b26 hf) K4
set_option maxHeartbeats 4000000 in
set_option maxRecDepth 100000 in
theorem kpX16_short32 {h : pm_H} {a0 : Nat} {p1 : Int32} {p2 : Int64} {p3 : Int64} {p4 : Int64} {p5 : Int64} {r : (Int64 × pm_H)} (hf : fX16_short32 h a0 p1 p2 p3 p4 p5 = some r) : pm_S3 r.2 h := by
  unfold fX16_short32 at hf
  have K0 := pm_S3.rf h
  obtain ⟨y1, e2, hf⟩ := pm_lt hf
  by_cases c3 : p1 = 0
  · have hf := pm_it hf c3
    obtain ⟨v4, e5, hf⟩ := pm_bd hf
    cases hf
    exact K0
  have hf := pm_ie hf c3
  by_cases c6 : p1 = 1
  · have hf := pm_it hf c6
    obtain ⟨v7, e8, hf⟩ := pm_bd hf
    cases hf
    exact K0
  have hf := pm_ie hf c6
  by_cases c9 : p1 = 2
  · have hf := pm_it hf c9
    obtain ⟨v10, e11, hf⟩ := pm_bd hf
    cases hf
    exact K0
  have hf := pm_ie hf c9
  by_cases c12 : p1 = 3
  · have hf := pm_it hf c12
    obtain ⟨v13, e14, hf⟩ := pm_lt hf
    cases hf
    exact K0
  have hf := pm_ie hf c12
  by_cases c15 : p1 = 4
  · have hf := pm_it hf c15
    obtain ⟨v16, e17, hf⟩ := pm_lt hf
    cases hf
    exact K0
  have hf := pm_ie hf c15
  by_cases c18 : p1 = 5
  · have hf := pm_it hf c18
    obtain ⟨v19, e20, hf⟩ := pm_lt hf
    cases hf
    exact K0
  have hf := pm_ie hf c18
  by_cases c21 : p1 = 6
  · have hf := pm_it hf c21
    by_cases c22 : p1 = 6
    · have hf := pm_it hf c22
      by_cases c23 : p1 = 6
      · have hf := pm_it hf c23
        obtain ⟨k24, hf⟩ := pm_if hf
        obtain ⟨v25, e26, hf⟩ := pm_bd hf
        have K27 := pm_S3.trans (kpX16_divided e26) K0
        cases hf
        exact K27
      · have hf := pm_ie hf c23
        by_cases c28 : p1 = 8
        · have hf := pm_it hf c28
          obtain ⟨k29, hf⟩ := pm_if hf
          obtain ⟨v30, e31, hf⟩ := pm_bd hf
          have K32 := pm_S3.trans (kpX16_divided e31) K0
          cases hf
          exact K32
        · have hf := pm_ie hf c28
          obtain ⟨k33, hf⟩ := pm_if hf
          obtain ⟨v34, e35, hf⟩ := pm_bd hf
          have K36 := pm_S3.trans (kpX16_divided e35) K0
          cases hf
          exact K36
    · have hf := pm_ie hf c22
      by_cases c37 : p1 = 8
      · have hf := pm_it hf c37
        by_cases c38 : p1 = 6
        · have hf := pm_it hf c38
          obtain ⟨k39, hf⟩ := pm_if hf
          obtain ⟨v40, e41, hf⟩ := pm_bd hf
          have K42 := pm_S3.trans (kpX16_divided e41) K0
          cases hf
          exact K42
        · have hf := pm_ie hf c38
          by_cases c43 : p1 = 8
          · have hf := pm_it hf c43
            obtain ⟨k44, hf⟩ := pm_if hf
            obtain ⟨v45, e46, hf⟩ := pm_bd hf
            have K47 := pm_S3.trans (kpX16_divided e46) K0
            cases hf
            exact K47
          · have hf := pm_ie hf c43
            obtain ⟨k48, hf⟩ := pm_if hf
            obtain ⟨v49, e50, hf⟩ := pm_bd hf
            have K51 := pm_S3.trans (kpX16_divided e50) K0
            cases hf
            exact K51
      · have hf := pm_ie hf c37
        by_cases c52 : p1 = 6
        · have hf := pm_it hf c52
          obtain ⟨k53, hf⟩ := pm_if hf
          obtain ⟨v54, e55, hf⟩ := pm_bd hf
          have K56 := pm_S3.trans (kpX16_divided e55) K0
          cases hf
          exact K56
        · have hf := pm_ie hf c52
          by_cases c57 : p1 = 8
          · have hf := pm_it hf c57
            obtain ⟨k58, hf⟩ := pm_if hf
            obtain ⟨v59, e60, hf⟩ := pm_bd hf
            have K61 := pm_S3.trans (kpX16_divided e60) K0
            cases hf
            exact K61
          · have hf := pm_ie hf c57
            obtain ⟨k62, hf⟩ := pm_if hf
            obtain ⟨v63, e64, hf⟩ := pm_bd hf
            have K65 := pm_S3.trans (kpX16_divided e64) K0
            cases hf
            exact K65
  have hf := pm_ie hf c21
  by_cases c66 : p1 = 7
  · have hf := pm_it hf c66
    by_cases c67 : p1 = 6
    · have hf := pm_it hf c67
      by_cases c68 : p1 = 6
      · have hf := pm_it hf c68
        obtain ⟨k69, hf⟩ := pm_if hf
        obtain ⟨v70, e71, hf⟩ := pm_bd hf
        have K72 := pm_S3.trans (kpX16_divided e71) K0
        cases hf
        exact K72
      · have hf := pm_ie hf c68
        by_cases c73 : p1 = 8
        · have hf := pm_it hf c73
          obtain ⟨k74, hf⟩ := pm_if hf
          obtain ⟨v75, e76, hf⟩ := pm_bd hf
          have K77 := pm_S3.trans (kpX16_divided e76) K0
          cases hf
          exact K77
        · have hf := pm_ie hf c73
          obtain ⟨k78, hf⟩ := pm_if hf
          obtain ⟨v79, e80, hf⟩ := pm_bd hf
          have K81 := pm_S3.trans (kpX16_divided e80) K0
          cases hf
          exact K81
    · have hf := pm_ie hf c67
      by_cases c82 : p1 = 8
      · have hf := pm_it hf c82
        by_cases c83 : p1 = 6
        · have hf := pm_it hf c83
          obtain ⟨k84, hf⟩ := pm_if hf
          obtain ⟨v85, e86, hf⟩ := pm_bd hf
          have K87 := pm_S3.trans (kpX16_divided e86) K0
          cases hf
          exact K87
        · have hf := pm_ie hf c83
          by_cases c88 : p1 = 8
          · have hf := pm_it hf c88
            obtain ⟨k89, hf⟩ := pm_if hf
            obtain ⟨v90, e91, hf⟩ := pm_bd hf
            have K92 := pm_S3.trans (kpX16_divided e91) K0
            cases hf
            exact K92
          · have hf := pm_ie hf c88
            obtain ⟨k93, hf⟩ := pm_if hf
            obtain ⟨v94, e95, hf⟩ := pm_bd hf
            have K96 := pm_S3.trans (kpX16_divided e95) K0
            cases hf
            exact K96
      · have hf := pm_ie hf c82
        by_cases c97 : p1 = 6
        · have hf := pm_it hf c97
          obtain ⟨k98, hf⟩ := pm_if hf
          obtain ⟨v99, e100, hf⟩ := pm_bd hf
          have K101 := pm_S3.trans (kpX16_divided e100) K0
          cases hf
          exact K101
        · have hf := pm_ie hf c97
          by_cases c102 : p1 = 8
          · have hf := pm_it hf c102
            obtain ⟨k103, hf⟩ := pm_if hf
            obtain ⟨v104, e105, hf⟩ := pm_bd hf
            have K106 := pm_S3.trans (kpX16_divided e105) K0
            cases hf
            exact K106
          · have hf := pm_ie hf c102
            obtain ⟨k107, hf⟩ := pm_if hf
            obtain ⟨v108, e109, hf⟩ := pm_bd hf
            have K110 := pm_S3.trans (kpX16_divided e109) K0
            cases hf
            exact K110
  have hf := pm_ie hf c66
  by_cases c111 : p1 = 8
  · have hf := pm_it hf c111
    by_cases c112 : p1 = 6
    · have hf := pm_it hf c112
      by_cases c113 : p1 = 6
      · have hf := pm_it hf c113
        obtain ⟨k114, hf⟩ := pm_if hf
        obtain ⟨v115, e116, hf⟩ := pm_bd hf
        have K117 := pm_S3.trans (kpX16_divided e116) K0
        cases hf
        exact K117
      · have hf := pm_ie hf c113
        by_cases c118 : p1 = 8
        · have hf := pm_it hf c118
          obtain ⟨k119, hf⟩ := pm_if hf
          obtain ⟨v120, e121, hf⟩ := pm_bd hf
          have K122 := pm_S3.trans (kpX16_divided e121) K0
          cases hf
          exact K122
        · have hf := pm_ie hf c118
          obtain ⟨k123, hf⟩ := pm_if hf
          obtain ⟨v124, e125, hf⟩ := pm_bd hf
          have K126 := pm_S3.trans (kpX16_divided e125) K0
          cases hf
          exact K126
    · have hf := pm_ie hf c112
      by_cases c127 : p1 = 8
      · have hf := pm_it hf c127
        by_cases c128 : p1 = 6
        · have hf := pm_it hf c128
          obtain ⟨k129, hf⟩ := pm_if hf
          obtain ⟨v130, e131, hf⟩ := pm_bd hf
          have K132 := pm_S3.trans (kpX16_divided e131) K0
          cases hf
          exact K132
        · have hf := pm_ie hf c128
          by_cases c133 : p1 = 8
          · have hf := pm_it hf c133
            obtain ⟨k134, hf⟩ := pm_if hf
            obtain ⟨v135, e136, hf⟩ := pm_bd hf
            have K137 := pm_S3.trans (kpX16_divided e136) K0
            cases hf
            exact K137
          · have hf := pm_ie hf c133
            obtain ⟨k138, hf⟩ := pm_if hf
            obtain ⟨v139, e140, hf⟩ := pm_bd hf
            have K141 := pm_S3.trans (kpX16_divided e140) K0
            cases hf
            exact K141
      · have hf := pm_ie hf c127
        by_cases c142 : p1 = 6
        · have hf := pm_it hf c142
          obtain ⟨k143, hf⟩ := pm_if hf
          obtain ⟨v144, e145, hf⟩ := pm_bd hf
          have K146 := pm_S3.trans (kpX16_divided e145) K0
          cases hf
          exact K146
        · have hf := pm_ie hf c142
          by_cases c147 : p1 = 8
          · have hf := pm_it hf c147
            obtain ⟨k148, hf⟩ := pm_if hf
            obtain ⟨v149, e150, hf⟩ := pm_bd hf
            have K151 := pm_S3.trans (kpX16_divided e150) K0
            cases hf
            exact K151
          · have hf := pm_ie hf c147
            obtain ⟨k152, hf⟩ := pm_if hf
            obtain ⟨v153, e154, hf⟩ := pm_bd hf
            have K155 := pm_S3.trans (kpX16_divided e154) K0
            cases hf
            exact K155
  have hf := pm_ie hf c111
  by_cases c156 : p1 = 9
  · have hf := pm_it hf c156
    by_cases c157 : p1 = 6
    · have hf := pm_it hf c157
      by_cases c158 : p1 = 6
      · have hf := pm_it hf c158
        obtain ⟨k159, hf⟩ := pm_if hf
        obtain ⟨v160, e161, hf⟩ := pm_bd hf
        have K162 := pm_S3.trans (kpX16_divided e161) K0
        cases hf
        exact K162
      · have hf := pm_ie hf c158
        by_cases c163 : p1 = 8
        · have hf := pm_it hf c163
          obtain ⟨k164, hf⟩ := pm_if hf
          obtain ⟨v165, e166, hf⟩ := pm_bd hf
          have K167 := pm_S3.trans (kpX16_divided e166) K0
          cases hf
          exact K167
        · have hf := pm_ie hf c163
          obtain ⟨k168, hf⟩ := pm_if hf
          obtain ⟨v169, e170, hf⟩ := pm_bd hf
          have K171 := pm_S3.trans (kpX16_divided e170) K0
          cases hf
          exact K171
    · have hf := pm_ie hf c157
      by_cases c172 : p1 = 8
      · have hf := pm_it hf c172
        by_cases c173 : p1 = 6
        · have hf := pm_it hf c173
          obtain ⟨k174, hf⟩ := pm_if hf
          obtain ⟨v175, e176, hf⟩ := pm_bd hf
          have K177 := pm_S3.trans (kpX16_divided e176) K0
          cases hf
          exact K177
        · have hf := pm_ie hf c173
          by_cases c178 : p1 = 8
          · have hf := pm_it hf c178
            obtain ⟨k179, hf⟩ := pm_if hf
            obtain ⟨v180, e181, hf⟩ := pm_bd hf
            have K182 := pm_S3.trans (kpX16_divided e181) K0
            cases hf
            exact K182
          · have hf := pm_ie hf c178
            obtain ⟨k183, hf⟩ := pm_if hf
            obtain ⟨v184, e185, hf⟩ := pm_bd hf
            have K186 := pm_S3.trans (kpX16_divided e185) K0
            cases hf
            exact K186
      · have hf := pm_ie hf c172
        by_cases c187 : p1 = 6
        · have hf := pm_it hf c187
          obtain ⟨k188, hf⟩ := pm_if hf
          obtain ⟨v189, e190, hf⟩ := pm_bd hf
          have K191 := pm_S3.trans (kpX16_divided e190) K0
          cases hf
          exact K191
        · have hf := pm_ie hf c187
          by_cases c192 : p1 = 8
          · have hf := pm_it hf c192
            obtain ⟨k193, hf⟩ := pm_if hf
            obtain ⟨v194, e195, hf⟩ := pm_bd hf
            have K196 := pm_S3.trans (kpX16_divided e195) K0
            cases hf
            exact K196
          · have hf := pm_ie hf c192
            obtain ⟨k197, hf⟩ := pm_if hf
            obtain ⟨v198, e199, hf⟩ := pm_bd hf
            have K200 := pm_S3.trans (kpX16_divided e199) K0
            cases hf
            exact K200
  have hf := pm_ie hf c156
  by_cases c201 : p1 = 10
  · have hf := pm_it hf c201
    obtain ⟨v202, e203, hf⟩ := pm_lt hf
    cases hf
    exact K0
  have hf := pm_ie hf c201
  by_cases c204 : p1 = 11
  · have hf := pm_it hf c204
    obtain ⟨v205, e206, hf⟩ := pm_lt hf
    cases hf
    exact K0
  have hf := pm_ie hf c204
  by_cases c207 : p1 = 12
  · have hf := pm_it hf c207
    obtain ⟨v208, e209, hf⟩ := pm_lt hf
    cases hf
    exact K0
  have hf := pm_ie hf c207
  by_cases c210 : p1 = 13
  · have hf := pm_it hf c210
    cases hf
    exact K0
  have hf := pm_ie hf c210
  by_cases c211 : p1 = 14
  · have hf := pm_it hf c211
    cases hf
    exact K0
  have hf := pm_ie hf c211
  by_cases c212 : p1 = 15
  · have hf := pm_it hf c212
    cases hf
    exact K0
  have hf := pm_ie hf c212
  by_cases c213 : p1 = 16
  · have hf := pm_it hf c213
    cases hf
    exact K0
  have hf := pm_ie hf c213
  by_cases c214 : p1 = 17
  · have hf := pm_it hf c214
    cases hf
    exact K0
  have hf := pm_ie hf c214
  obtain ⟨v215, e216, hf⟩ := pm_lt hf
  cases hf
  exact K0
set_option maxHeartbeats 4000000 in
set_option maxRecDepth 100000 in
theorem klX16_stretches {r : pm_H} : ∀ n : Nat, (∀ (x0 : Nat) (x1 : Int32) (x3 : Int32) (x4 : Int64) (x6 : Int64) (x8 : Int64) (x12 : Int32) (x13 : Int64) (h : pm_H), pm_iter sX16_stretches n (.inl (x0, x1, x3, x4, x6, x8, x12, x13, h)) = some r → pm_S3 r h) ∧ (∀ (x0 : Nat) (x1 : Int32) (x3 : Int32) (x4 : Int64) (x6 : Int64) (x8 : Int64) (x12 : Int32) (x13 : Int64) (h : pm_H), pm_iter sX16_stretches n (.inr (.inl (x0, x1, x3, x4, x6, x8, x12, x13, h))) = some r → pm_S3 r h) ∧ (∀ (x0 : Nat) (x1 : Int32) (x3 : Int32) (x4 : Int64) (x6 : Int64) (x8 : Int64) (x12 : Int32) (x13 : Int64) (s0 : Int64) (h : pm_H), pm_iter sX16_stretches n (.inr (.inr (x0, x1, x3, x4, x6, x8, x12, x13, s0, h))) = some r → pm_S3 r h) := by
  intro n
  induction n with
  | zero => exact ⟨fun _ _ _ _ _ _ _ _ _ hf => (by cases hf), fun _ _ _ _ _ _ _ _ _ hf => (by cases hf), fun _ _ _ _ _ _ _ _ _ _ hf => (by cases hf)⟩
  | succ n ih =>
    refine ⟨fun x0 x1 x3 x4 x6 x8 x12 x13 h hf => ?_, ?_⟩
    · obtain ⟨y, hf, hi⟩ := pm_iter_s hf
      have hf : tX16_stretches_126 x0 x1 x3 x4 x6 x8 x12 x13 h = some y := hf
      unfold tX16_stretches_126 at hf
      have K0 := pm_S3.rf h
      by_cases c56 : x4 ≤ x13
      · have hf := pm_it hf c56
        cases hf
        cases hi
        exact K0
      · have hf := pm_ie hf c56
        by_cases c57 : x12 = 0
        · have hf := pm_it hf c57
          by_cases c58 : x1 = 10
          · have hf := pm_it hf c58
            by_cases c59 : x8 ≤ x6
            · have hf := pm_it hf c59
              cases hf
              exact pm_S3.trans (ih.2.1 x0 x1 x3 x4 x6 x8 x12 x13 h hi) K0
            · have hf := pm_ie hf c59
              cases hf
              exact pm_S3.trans (ih.2.2 x0 x1 x3 x4 x6 x8 x12 x13 ((x4 - 1) - x13) h hi) K0
          · have hf := pm_ie hf c58
            cases hf
            exact pm_S3.trans (ih.2.1 x0 x1 x3 x4 x6 x8 x12 x13 h hi) K0
        · have hf := pm_ie hf c57
          cases hf
          cases hi
          exact K0
    refine ⟨fun x0 x1 x3 x4 x6 x8 x12 x13 h hf => ?_, ?_⟩
    · obtain ⟨y, hf, hi⟩ := pm_iter_s hf
      have hf : tX16_stretches_163 x0 x1 x3 x4 x6 x8 x12 x13 h = some y := hf
      unfold tX16_stretches_163 at hf
      have K0 := pm_S3.rf h
      cases hf
      exact pm_S3.trans (ih.2.2 x0 x1 x3 x4 x6 x8 x12 x13 x13 h hi) K0
    refine fun x0 x1 x3 x4 x6 x8 x12 x13 s0 h hf => ?_
    obtain ⟨y, hf, hi⟩ := pm_iter_s hf
    have hf : tX16_stretches_165 x0 x1 x3 x4 x6 x8 x12 x13 s0 h = some y := hf
    unfold tX16_stretches_165 at hf
    have K0 := pm_S3.rf h
    by_cases c60 : x1 = 11
    · have hf := pm_it hf c60
      obtain ⟨k61, hf⟩ := pm_if hf
      obtain ⟨v62, e63, hf⟩ := pm_bd hf
      have K64 := pm_S3.trans (kpX16_sets e63) K0
      obtain ⟨y65, e66, hf⟩ := pm_lt hf
      cases hf
      exact pm_S3.trans (ih.1 x0 x1 x3 x4 x6 x8 x12 y65 v62 hi) K64
    · have hf := pm_ie hf c60
      obtain ⟨k67, hf⟩ := pm_if hf
      obtain ⟨v68, e69, hf⟩ := pm_bd hf
      obtain ⟨v70, e71, hf⟩ := pm_bd hf
      have K72 := pm_S3.trans (kpX16_sets e71) K0
      obtain ⟨y73, e74, hf⟩ := pm_lt hf
      cases hf
      exact pm_S3.trans (ih.1 x0 x1 x3 x4 x6 x8 x12 y73 v70 hi) K72
set_option maxHeartbeats 4000000 in
set_option maxRecDepth 100000 in
theorem kpX16_stretches {h : pm_H} {a0 : Nat} {p1 : Int32} {p2 : Int32} {r : pm_H} (hf : fX16_stretches h a0 p1 p2 = some r) : pm_S3 r h := by
  unfold fX16_stretches at hf
  have K0 := pm_S3.rf h
  obtain ⟨k1, hf⟩ := pm_if hf
  obtain ⟨v2, e3, hf⟩ := pm_bd hf
  obtain ⟨y4, e5, hf⟩ := pm_lt hf
  obtain ⟨k6, hf⟩ := pm_if hf
  obtain ⟨u7, hf⟩ := pm_if hf
  obtain ⟨y8, e9, hf⟩ := pm_lt hf
  obtain ⟨v10, e11, hf⟩ := pm_bd hf
  have K12 := pm_S3.trans (kpX16_pop e11) K0
  obtain ⟨k13, hf⟩ := pm_if hf
  obtain ⟨v14, e15, hf⟩ := pm_bd hf
  have K16 := pm_S3.trans (kpX16_pop e15) K12
  obtain ⟨k17, hf⟩ := pm_if hf
  obtain ⟨v18, e19, hf⟩ := pm_bd hf
  have K20 := pm_S3.trans (kpX16_pop e19) K16
  obtain ⟨k21, hf⟩ := pm_if hf
  obtain ⟨v22, e23, hf⟩ := pm_bd hf
  obtain ⟨k24, hf⟩ := pm_if hf
  obtain ⟨u25, hf⟩ := pm_if hf
  obtain ⟨y26, e27, hf⟩ := pm_lt hf
  by_cases c28 : p1 = 8
  · have hf := pm_it hf c28
    obtain ⟨v29, e30, hf⟩ := pm_bd hf
    have K31 := pm_S3.trans (kpX16_copiesData e30) K20
    by_cases c32 : v29.1 = 0
    · have hf := pm_it hf c32
      obtain ⟨k33, hf⟩ := pm_if hf
      obtain ⟨v34, e35, hf⟩ := pm_bd hf
      have K36 := pm_S3.trans (kpX16_endsBy e35) K31
      cases hf
      exact K36
    · have hf := pm_ie hf c32
      obtain ⟨k37, hf⟩ := pm_if hf
      obtain ⟨v38, e39, hf⟩ := pm_bd hf
      have K40 := pm_S3.trans (kpX16_endsBy e39) K31
      cases hf
      exact K40
  · have hf := pm_ie hf c28
    by_cases c41 : y26 < (v18.1 + v10.1)
    · have hf := pm_it hf c41
      obtain ⟨v42, e43, hf⟩ := pm_bd hf
      have K44 := pm_S3.trans (kpX16_endsBy e43) K20
      obtain ⟨n, hn⟩ := pm_lim_iter hf
      exact pm_S3.trans ((klX16_stretches n).1 a0 p1 y8 v10.1 v14.1 v18.1 1 0 v42 hn) K44
    · have hf := pm_ie hf c41
      by_cases c45 : p1 = 10
      · have hf := pm_it hf c45
        by_cases c46 : (v14.1 + v10.1) ≤ y26
        · have hf := pm_it hf c46
          obtain ⟨v47, e48, hf⟩ := pm_bd hf
          have K49 := pm_S3.trans (kpX16_endsBy e48) K20
          obtain ⟨n, hn⟩ := pm_lim_iter hf
          exact pm_S3.trans ((klX16_stretches n).1 a0 p1 y8 v10.1 v14.1 v18.1 0 0 v47 hn) K49
        · have hf := pm_ie hf c46
          obtain ⟨v50, e51, hf⟩ := pm_bd hf
          have K52 := pm_S3.trans (kpX16_endsBy e51) K20
          obtain ⟨n, hn⟩ := pm_lim_iter hf
          exact pm_S3.trans ((klX16_stretches n).1 a0 p1 y8 v10.1 v14.1 v18.1 1 0 v50 hn) K52
      · have hf := pm_ie hf c45
        obtain ⟨v53, e54, hf⟩ := pm_bd hf
        have K55 := pm_S3.trans (kpX16_endsBy e54) K20
        obtain ⟨n, hn⟩ := pm_lim_iter hf
        exact pm_S3.trans ((klX16_stretches n).1 a0 p1 y8 v10.1 v14.1 v18.1 0 0 v53 hn) K55
set_option maxHeartbeats 4000000 in
set_option maxRecDepth 100000 in
theorem klX16_takesElement {r : pm_H} : ∀ n : Nat, (∀ (x0 : Nat) (x1 : Int32) (x2 : Int32) (x3 : Int32) (h : pm_H), pm_iter sX16_takesElement n (x0, x1, x2, x3, h) = some r → pm_S3 r h) := by
  intro n
  induction n with
  | zero => exact fun _ _ _ _ _ hf => (by cases hf)
  | succ n ih =>
    refine fun x0 x1 x2 x3 h hf => ?_
    obtain ⟨y, hf, hi⟩ := pm_iter_s hf
    have hf : tX16_takesElement_50 x0 x1 x2 x3 h = some y := hf
    unfold tX16_takesElement_50 at hf
    have K0 := pm_S3.rf h
    obtain ⟨k27, hf⟩ := pm_if hf
    obtain ⟨v28, e29, hf⟩ := pm_bd hf
    obtain ⟨k30, hf⟩ := pm_if hf
    obtain ⟨v31, e32, hf⟩ := pm_bd hf
    obtain ⟨k33, hf⟩ := pm_if hf
    obtain ⟨u34, hf⟩ := pm_if hf
    by_cases c35 : (pm_I h v31 x2.toNatClampNeg) ≤ x3
    · have hf := pm_it hf c35
      cases hf
      cases hi
      exact K0
    · have hf := pm_ie hf c35
      obtain ⟨v36, e37, hf⟩ := pm_bd hf
      obtain ⟨v38, e39, hf⟩ := pm_bd hf
      obtain ⟨k40, hf⟩ := pm_if hf
      obtain ⟨u41, hf⟩ := pm_if hf
      by_cases c42 : (pm_I h v38 x2.toNatClampNeg) = 0
      · have hf := pm_it hf c42
        obtain ⟨v43, e44, hf⟩ := pm_bd hf
        obtain ⟨v45, e46, hf⟩ := pm_bd hf
        have K47 := pm_S3.trans (kpX16_word e46) K0
        obtain ⟨y48, e49, hf⟩ := pm_lt hf
        obtain ⟨k50, hf⟩ := pm_if hf
        obtain ⟨u51, hf⟩ := pm_if hf
        obtain ⟨y52, e53, hf⟩ := pm_lt hf
        obtain ⟨k54, hf⟩ := pm_if hf
        obtain ⟨u55, hf⟩ := pm_if hf
        obtain ⟨k56, hf⟩ := pm_if hf
        obtain ⟨y57, e58, hf⟩ := pm_lt hf
        obtain ⟨y59, e60, hf⟩ := pm_lt hf
        cases hf
        exact pm_S3.trans (ih x0 x1 x2 y59 (pm_setI (pm_setI v45.2 v36 ((pm_I h x0 71).toNatClampNeg) y52) x0 71 y57) hi) K47
      · have hf := pm_ie hf c42
        obtain ⟨v61, e62, hf⟩ := pm_bd hf
        have K63 := pm_S3.trans (kpX16_constant e62) K0
        obtain ⟨k64, hf⟩ := pm_if hf
        obtain ⟨u65, hf⟩ := pm_if hf
        obtain ⟨k66, hf⟩ := pm_if hf
        obtain ⟨y67, e68, hf⟩ := pm_lt hf
        obtain ⟨y69, e70, hf⟩ := pm_lt hf
        cases hf
        exact pm_S3.trans (ih x0 x1 x2 y69 (pm_setI (pm_setI v61.2 v36 ((pm_I h x0 71).toNatClampNeg) v61.1.toInt32) x0 71 y67) hi) K63
set_option maxHeartbeats 4000000 in
set_option maxRecDepth 100000 in
theorem kpX16_takesElement {h : pm_H} {a0 : Nat} {p1 : Int32} {p2 : Int32} {r : pm_H} (hf : fX16_takesElement h a0 p1 p2 = some r) : pm_S3 r h := by
  unfold fX16_takesElement at hf
  have K0 := pm_S3.rf h
  obtain ⟨k1, hf⟩ := pm_if hf
  obtain ⟨v2, e3, hf⟩ := pm_bd hf
  obtain ⟨y4, e5, hf⟩ := pm_lt hf
  obtain ⟨k6, hf⟩ := pm_if hf
  obtain ⟨u7, hf⟩ := pm_if hf
  obtain ⟨v8, e9, hf⟩ := pm_bd hf
  obtain ⟨v10, e11, hf⟩ := pm_bd hf
  obtain ⟨k12, hf⟩ := pm_if hf
  obtain ⟨v13, e14, hf⟩ := pm_bd hf
  obtain ⟨k15, hf⟩ := pm_if hf
  obtain ⟨u16, hf⟩ := pm_if hf
  obtain ⟨y17, e18, hf⟩ := pm_lt hf
  obtain ⟨k19, hf⟩ := pm_if hf
  obtain ⟨u20, hf⟩ := pm_if hf
  obtain ⟨v21, e22, hf⟩ := pm_bd hf
  obtain ⟨k23, hf⟩ := pm_if hf
  obtain ⟨u24, hf⟩ := pm_if hf
  obtain ⟨y25, e26, hf⟩ := pm_lt hf
  obtain ⟨n, hn⟩ := pm_lim_iter hf
  exact pm_S3.trans ((klX16_takesElement n) a0 p1 p2 0 (pm_setI (pm_setI (pm_setI h v2 (((64 * p1) + p2).toNatClampNeg) y4) v8 (((64 * p1) + p2).toNatClampNeg) y17) a0 19 y25) hn) K0
set_option maxHeartbeats 4000000 in
set_option maxRecDepth 100000 in
theorem klX16_takesOwn {r : pm_H} : ∀ n : Nat, (∀ (x0 : Nat) (x1 : Int32) (x2 : Int32) (x3 : Int32) (h : pm_H), pm_iter sX16_takesOwn n (.inl (x0, x1, x2, x3, h)) = some r → pm_S3 r h) ∧ (∀ (x0 : Nat) (x1 : Int32) (x3 : Int32) (h : pm_H), pm_iter sX16_takesOwn n (.inr (.inl (x0, x1, x3, h))) = some r → pm_S3 r h) ∧ (∀ (x0 : Nat) (x1 : Int32) (x3 : Int32) (h : pm_H), pm_iter sX16_takesOwn n (.inr (.inr (.inl (x0, x1, x3, h)))) = some r → pm_S3 r h) ∧ (∀ (x0 : Nat) (x1 : Int32) (x3 : Int32) (h : pm_H), pm_iter sX16_takesOwn n (.inr (.inr (.inr (.inl (x0, x1, x3, h))))) = some r → pm_S3 r h) ∧ (∀ (x0 : Nat) (x1 : Int32) (x3 : Int32) (h : pm_H), pm_iter sX16_takesOwn n (.inr (.inr (.inr (.inr (.inl (x0, x1, x3, h)))))) = some r → pm_S3 r h) ∧ (∀ (x0 : Nat) (x1 : Int32) (x3 : Int32) (h : pm_H), pm_iter sX16_takesOwn n (.inr (.inr (.inr (.inr (.inr (x0, x1, x3, h)))))) = some r → pm_S3 r h) := by
  intro n
  induction n with
  | zero => exact ⟨fun _ _ _ _ _ hf => (by cases hf), fun _ _ _ _ hf => (by cases hf), fun _ _ _ _ hf => (by cases hf), fun _ _ _ _ hf => (by cases hf), fun _ _ _ _ hf => (by cases hf), fun _ _ _ _ hf => (by cases hf)⟩
  | succ n ih =>
    refine ⟨fun x0 x1 x2 x3 h hf => ?_, ?_⟩
    · obtain ⟨y, hf, hi⟩ := pm_iter_s hf
      have hf : tX16_takesOwn_2 x0 x1 x2 x3 h = some y := hf
      unfold tX16_takesOwn_2 at hf
      have K0 := pm_S3.rf h
      obtain ⟨k1, hf⟩ := pm_if hf
      obtain ⟨v2, e3, hf⟩ := pm_bd hf
      obtain ⟨k4, hf⟩ := pm_if hf
      by_cases c5 : (pm_I h v2 15) ≤ x3
      · have hf := pm_it hf c5
        cases hf
        exact pm_S3.trans (ih.2.1 x0 x1 0 h hi) K0
      · have hf := pm_ie hf c5
        obtain ⟨v6, e7, hf⟩ := pm_bd hf
        obtain ⟨v8, e9, hf⟩ := pm_bd hf
        obtain ⟨k10, hf⟩ := pm_if hf
        obtain ⟨u11, hf⟩ := pm_if hf
        obtain ⟨v12, e13, hf⟩ := pm_bd hf
        have K14 := pm_S3.trans (kpX16_newFunction e13) K0
        obtain ⟨k15, hf⟩ := pm_if hf
        obtain ⟨v16, e17, hf⟩ := pm_bd hf
        have K18 := pm_S3.trans (kpX16_has e17) K14
        obtain ⟨y19, e20, hf⟩ := pm_lt hf
        cases hf
        exact pm_S3.trans (ih.1 x0 x1 x2 y19 v16 hi) K18
    refine ⟨fun x0 x1 x3 h hf => ?_, ?_⟩
    · obtain ⟨y, hf, hi⟩ := pm_iter_s hf
      have hf : tX16_takesOwn_55 x0 x1 x3 h = some y := hf
      unfold tX16_takesOwn_55 at hf
      have K0 := pm_S3.rf h
      obtain ⟨k21, hf⟩ := pm_if hf
      obtain ⟨v22, e23, hf⟩ := pm_bd hf
      obtain ⟨k24, hf⟩ := pm_if hf
      by_cases c25 : (pm_I h v22 17) ≤ x3
      · have hf := pm_it hf c25
        cases hf
        exact pm_S3.trans (ih.2.2.1 x0 x1 0 h hi) K0
      · have hf := pm_ie hf c25
        obtain ⟨v26, e27, hf⟩ := pm_bd hf
        obtain ⟨v28, e29, hf⟩ := pm_bd hf
        obtain ⟨k30, hf⟩ := pm_if hf
        obtain ⟨u31, hf⟩ := pm_if hf
        obtain ⟨y32, e33, hf⟩ := pm_lt hf
        obtain ⟨k34, hf⟩ := pm_if hf
        obtain ⟨u35, hf⟩ := pm_if hf
        obtain ⟨v36, e37, hf⟩ := pm_bd hf
        obtain ⟨v38, e39, hf⟩ := pm_bd hf
        obtain ⟨k40, hf⟩ := pm_if hf
        obtain ⟨u41, hf⟩ := pm_if hf
        obtain ⟨y42, e43, hf⟩ := pm_lt hf
        obtain ⟨k44, hf⟩ := pm_if hf
        obtain ⟨u45, hf⟩ := pm_if hf
        obtain ⟨v46, e47, hf⟩ := pm_bd hf
        obtain ⟨k48, hf⟩ := pm_if hf
        obtain ⟨u49, hf⟩ := pm_if hf
        obtain ⟨v50, e51, hf⟩ := pm_bd hf
        obtain ⟨k52, hf⟩ := pm_if hf
        obtain ⟨u53, hf⟩ := pm_if hf
        obtain ⟨v54, e55, hf⟩ := pm_bd hf
        have K56 := pm_S3.trans (kpX16_grows e55) K0
        obtain ⟨k57, hf⟩ := pm_if hf
        obtain ⟨v58, e59, hf⟩ := pm_bd hf
        obtain ⟨k60, hf⟩ := pm_if hf
        obtain ⟨v61, e62, hf⟩ := pm_bd hf
        obtain ⟨v63, e64, hf⟩ := pm_bd hf
        have K65 := pm_S3.trans (kpX16_has e64) K56
        obtain ⟨k66, hf⟩ := pm_if hf
        obtain ⟨y67, e68, hf⟩ := pm_lt hf
        obtain ⟨y69, e70, hf⟩ := pm_lt hf
        cases hf
        exact pm_S3.trans (ih.2.1 x0 x1 y69 (pm_setI v63 x0 46 y67) hi) K65
    refine ⟨fun x0 x1 x3 h hf => ?_, ?_⟩
    · obtain ⟨y, hf, hi⟩ := pm_iter_s hf
      have hf : tX16_takesOwn_169 x0 x1 x3 h = some y := hf
      unfold tX16_takesOwn_169 at hf
      have K0 := pm_S3.rf h
      obtain ⟨k71, hf⟩ := pm_if hf
      obtain ⟨v72, e73, hf⟩ := pm_bd hf
      obtain ⟨k74, hf⟩ := pm_if hf
      by_cases c75 : (pm_I h v72 21) ≤ x3
      · have hf := pm_it hf c75
        cases hf
        exact pm_S3.trans (ih.2.2.2.1 x0 x1 0 h hi) K0
      · have hf := pm_ie hf c75
        obtain ⟨v76, e77, hf⟩ := pm_bd hf
        obtain ⟨v78, e79, hf⟩ := pm_bd hf
        obtain ⟨k80, hf⟩ := pm_if hf
        obtain ⟨u81, hf⟩ := pm_if hf
        obtain ⟨y82, e83, hf⟩ := pm_lt hf
        obtain ⟨k84, hf⟩ := pm_if hf
        obtain ⟨u85, hf⟩ := pm_if hf
        obtain ⟨v86, e87, hf⟩ := pm_bd hf
        obtain ⟨k88, hf⟩ := pm_if hf
        obtain ⟨u89, hf⟩ := pm_if hf
        obtain ⟨v90, e91, hf⟩ := pm_bd hf
        obtain ⟨k92, hf⟩ := pm_if hf
        obtain ⟨u93, hf⟩ := pm_if hf
        obtain ⟨v94, e95, hf⟩ := pm_bd hf
        have K96 := pm_S3.trans (kpX16_growsPages e95) K0
        obtain ⟨k97, hf⟩ := pm_if hf
        obtain ⟨v98, e99, hf⟩ := pm_bd hf
        obtain ⟨k100, hf⟩ := pm_if hf
        obtain ⟨v101, e102, hf⟩ := pm_bd hf
        obtain ⟨v103, e104, hf⟩ := pm_bd hf
        have K105 := pm_S3.trans (kpX16_has e104) K96
        obtain ⟨k106, hf⟩ := pm_if hf
        obtain ⟨y107, e108, hf⟩ := pm_lt hf
        obtain ⟨y109, e110, hf⟩ := pm_lt hf
        cases hf
        exact pm_S3.trans (ih.2.2.1 x0 x1 y109 (pm_setI v103 x0 52 y107) hi) K105
    refine ⟨fun x0 x1 x3 h hf => ?_, ?_⟩
    · obtain ⟨y, hf, hi⟩ := pm_iter_s hf
      have hf : tX16_takesOwn_264 x0 x1 x3 h = some y := hf
      unfold tX16_takesOwn_264 at hf
      have K0 := pm_S3.rf h
      obtain ⟨k111, hf⟩ := pm_if hf
      obtain ⟨v112, e113, hf⟩ := pm_bd hf
      obtain ⟨k114, hf⟩ := pm_if hf
      by_cases c115 : (pm_I h v112 24) ≤ x3
      · have hf := pm_it hf c115
        cases hf
        exact pm_S3.trans (ih.2.2.2.2.1 x0 x1 0 h hi) K0
      · have hf := pm_ie hf c115
        obtain ⟨v116, e117, hf⟩ := pm_bd hf
        obtain ⟨v118, e119, hf⟩ := pm_bd hf
        obtain ⟨k120, hf⟩ := pm_if hf
        obtain ⟨u121, hf⟩ := pm_if hf
        obtain ⟨y122, e123, hf⟩ := pm_lt hf
        obtain ⟨k124, hf⟩ := pm_if hf
        obtain ⟨u125, hf⟩ := pm_if hf
        obtain ⟨v126, e127, hf⟩ := pm_bd hf
        obtain ⟨v128, e129, hf⟩ := pm_bd hf
        obtain ⟨k130, hf⟩ := pm_if hf
        obtain ⟨u131, hf⟩ := pm_if hf
        obtain ⟨y132, e133, hf⟩ := pm_lt hf
        obtain ⟨k134, hf⟩ := pm_if hf
        obtain ⟨u135, hf⟩ := pm_if hf
        obtain ⟨v136, e137, hf⟩ := pm_bd hf
        obtain ⟨v138, e139, hf⟩ := pm_bd hf
        obtain ⟨k140, hf⟩ := pm_if hf
        obtain ⟨u141, hf⟩ := pm_if hf
        obtain ⟨v142, e143, hf⟩ := pm_bd hf
        have K144 := pm_S3.trans (kpX16_constant e143) K0
        obtain ⟨k145, hf⟩ := pm_if hf
        obtain ⟨u146, hf⟩ := pm_if hf
        obtain ⟨k147, hf⟩ := pm_if hf
        obtain ⟨v148, e149, hf⟩ := pm_bd hf
        obtain ⟨k150, hf⟩ := pm_if hf
        obtain ⟨v151, e152, hf⟩ := pm_bd hf
        obtain ⟨v153, e154, hf⟩ := pm_bd hf
        have K155 := pm_S3.trans (kpX16_has e154) K144
        obtain ⟨k156, hf⟩ := pm_if hf
        obtain ⟨y157, e158, hf⟩ := pm_lt hf
        obtain ⟨y159, e160, hf⟩ := pm_lt hf
        cases hf
        exact pm_S3.trans (ih.2.2.2.1 x0 x1 y159 (pm_setI v153 x0 58 y157) hi) K155
    refine ⟨fun x0 x1 x3 h hf => ?_, ?_⟩
    · obtain ⟨y, hf, hi⟩ := pm_iter_s hf
      have hf : tX16_takesOwn_372 x0 x1 x3 h = some y := hf
      unfold tX16_takesOwn_372 at hf
      have K0 := pm_S3.rf h
      obtain ⟨k161, hf⟩ := pm_if hf
      obtain ⟨v162, e163, hf⟩ := pm_bd hf
      obtain ⟨k164, hf⟩ := pm_if hf
      by_cases c165 : (pm_I h v162 34) ≤ x3
      · have hf := pm_it hf c165
        cases hf
        exact pm_S3.trans (ih.2.2.2.2.2 x0 x1 0 h hi) K0
      · have hf := pm_ie hf c165
        obtain ⟨v166, e167, hf⟩ := pm_bd hf
        have K168 := pm_S3.trans (kpX16_takesElement e167) K0
        obtain ⟨y169, e170, hf⟩ := pm_lt hf
        cases hf
        exact pm_S3.trans (ih.2.2.2.2.1 x0 x1 y169 v166 hi) K168
    refine fun x0 x1 x3 h hf => ?_
    obtain ⟨y, hf, hi⟩ := pm_iter_s hf
    have hf : tX16_takesOwn_397 x0 x1 x3 h = some y := hf
    unfold tX16_takesOwn_397 at hf
    have K0 := pm_S3.rf h
    obtain ⟨k171, hf⟩ := pm_if hf
    obtain ⟨v172, e173, hf⟩ := pm_bd hf
    obtain ⟨k174, hf⟩ := pm_if hf
    by_cases c175 : (pm_I h v172 44) ≤ x3
    · have hf := pm_it hf c175
      cases hf
      cases hi
      exact K0
    · have hf := pm_ie hf c175
      obtain ⟨v176, e177, hf⟩ := pm_bd hf
      obtain ⟨k178, hf⟩ := pm_if hf
      obtain ⟨u179, hf⟩ := pm_if hf
      obtain ⟨y180, e181, hf⟩ := pm_lt hf
      cases hf
      exact pm_S3.trans (ih.2.2.2.2.2 x0 x1 y180 (pm_setI h v176 (((64 * x1) + x3).toNatClampNeg) (vp_nar .boolean 1)) hi) K0
set_option maxHeartbeats 4000000 in
set_option maxRecDepth 100000 in
theorem kpX16_takesOwn {h : pm_H} {a0 : Nat} {p1 : Int32} {p2 : Int32} {r : pm_H} (hf : fX16_takesOwn h a0 p1 p2 = some r) : pm_S3 r h := by
  unfold fX16_takesOwn at hf
  have K0 := pm_S3.rf h
  obtain ⟨n, hn⟩ := pm_lim_iter hf
  exact pm_S3.trans ((klX16_takesOwn n).1 a0 p1 p2 0 h hn) K0
set_option maxHeartbeats 4000000 in
set_option maxRecDepth 100000 in
theorem kpX16_towards_b276 {h : pm_H} {x0 : Nat} {x4 : Int32} {x5 : Int32} {x11 : Int64} {x13 : Int32} {s0 : Int64} {r : (Int64 × pm_H)} (hf : fX16_towards_b276 h x0 x4 x5 x11 x13 s0 = some r) : pm_S3 r.2 h := by
  unfold fX16_towards_b276 at hf
  have K0 := pm_S3.rf h
  by_cases c63 : x13 = 0
  · have hf := pm_it hf c63
    by_cases c64 : x4 = 32
    · have hf := pm_it hf c64
      cases hf
      exact K0
    · have hf := pm_ie hf c64
      cases hf
      exact K0
  · have hf := pm_ie hf c63
    obtain ⟨k65, hf⟩ := pm_if hf
    obtain ⟨v66, e67, hf⟩ := pm_bd hf
    obtain ⟨k68, hf⟩ := pm_if hf
    by_cases c69 : (pm_I h v66 0) = 0
    · have hf := pm_it hf c69
      by_cases c70 : x5 = 0
      · have hf := pm_it hf c70
        by_cases c71 : x4 = 32
        · have hf := pm_it hf c71
          cases hf
          exact K0
        · have hf := pm_ie hf c71
          cases hf
          exact K0
      · have hf := pm_ie hf c70
        obtain ⟨y72, e73, hf⟩ := pm_lt hf
        by_cases c74 : x4 = 32
        · have hf := pm_it hf c74
          cases hf
          exact K0
        · have hf := pm_ie hf c74
          cases hf
          exact K0
    · have hf := pm_ie hf c69
      by_cases c75 : x5 = 0
      · have hf := pm_it hf c75
        by_cases c76 : x4 = 32
        · have hf := pm_it hf c76
          cases hf
          exact K0
        · have hf := pm_ie hf c76
          cases hf
          exact K0
      · have hf := pm_ie hf c75
        obtain ⟨y77, e78, hf⟩ := pm_lt hf
        by_cases c79 : x4 = 32
        · have hf := pm_it hf c79
          cases hf
          exact K0
        · have hf := pm_ie hf c79
          cases hf
          exact K0
set_option maxHeartbeats 4000000 in
set_option maxRecDepth 100000 in
theorem kpX16_towards_b258 {h : pm_H} {x0 : Nat} {x4 : Int32} {x5 : Int32} {x9 : Int64} {x11 : Int64} {x13 : Int32} {r : (Int64 × pm_H)} (hf : fX16_towards_b258 h x0 x4 x5 x9 x11 x13 = some r) : pm_S3 r.2 h := by
  unfold fX16_towards_b258 at hf
  have K0 := pm_S3.rf h
  obtain ⟨k58, hf⟩ := pm_if hf
  obtain ⟨v59, e60, hf⟩ := pm_bd hf
  obtain ⟨k61, hf⟩ := pm_if hf
  by_cases c62 : (pm_I h v59 0) = 0
  · have hf := pm_it hf c62
    exact pm_S3.trans (kpX16_towards_b276 hf) K0
  · have hf := pm_ie hf c62
    exact pm_S3.trans (kpX16_towards_b276 hf) K0
set_option maxHeartbeats 4000000 in
set_option maxRecDepth 100000 in
theorem kpX16_towards_b241 {h : pm_H} {x0 : Nat} {x4 : Int32} {x5 : Int32} {x6 : Int32} {x9 : Int64} {x11 : Int64} {s0 : Int32} {r : (Int64 × pm_H)} (hf : fX16_towards_b241 h x0 x4 x5 x6 x9 x11 s0 = some r) : pm_S3 r.2 h := by
  unfold fX16_towards_b241 at hf
  have K0 := pm_S3.rf h
  by_cases c52 : s0 = 0
  · have hf := pm_it hf c52
    exact pm_S3.trans (kpX16_towards_b258 hf) K0
  · have hf := pm_ie hf c52
    by_cases c53 : x6 = 0
    · have hf := pm_it hf c53
      obtain ⟨k54, hf⟩ := pm_if hf
      obtain ⟨v55, e56, hf⟩ := pm_bd hf
      have K57 := pm_S3.trans (kpX16_traps e56) K0
      exact pm_S3.trans (kpX16_towards_b258 hf) K57
    · have hf := pm_ie hf c53
      exact pm_S3.trans (kpX16_towards_b258 hf) K0
set_option maxHeartbeats 4000000 in
set_option maxRecDepth 100000 in
theorem kpX16_towards_b240 {h : pm_H} {x0 : Nat} {x4 : Int32} {x5 : Int32} {x6 : Int32} {x9 : Int64} {x11 : Int64} {r : (Int64 × pm_H)} (hf : fX16_towards_b240 h x0 x4 x5 x6 x9 x11 = some r) : pm_S3 r.2 h := by
  unfold fX16_towards_b240 at hf
  have K0 := pm_S3.rf h
  exact pm_S3.trans (kpX16_towards_b241 hf) K0
set_option maxHeartbeats 4000000 in
set_option maxRecDepth 100000 in
theorem kpX16_towards_b236 {h : pm_H} {x0 : Nat} {x4 : Int32} {x5 : Int32} {x6 : Int32} {x9 : Int64} {x11 : Int64} {r : (Int64 × pm_H)} (hf : fX16_towards_b236 h x0 x4 x5 x6 x9 x11 = some r) : pm_S3 r.2 h := by
  unfold fX16_towards_b236 at hf
  have K0 := pm_S3.rf h
  exact pm_S3.trans (kpX16_towards_b241 hf) K0
set_option maxHeartbeats 4000000 in
set_option maxRecDepth 100000 in
theorem kpX16_towards_b148 {h : pm_H} {x0 : Nat} {x4 : Int32} {x5 : Int32} {x6 : Int32} {x8 : Int32} {s0 : Int64} {r : (Int64 × pm_H)} (hf : fX16_towards_b148 h x0 x4 x5 x6 x8 s0 = some r) : pm_S3 r.2 h := by
  unfold fX16_towards_b148 at hf
  have K0 := pm_S3.rf h
  obtain ⟨y33, e34, hf⟩ := pm_lt hf
  by_cases c35 : x8 = 0
  · have hf := pm_it hf c35
    obtain ⟨k36, hf⟩ := pm_if hf
    obtain ⟨v37, e38, hf⟩ := pm_bd hf
    obtain ⟨k39, hf⟩ := pm_if hf
    by_cases c40 : (pm_I h v37 0) = 0
    · have hf := pm_it hf c40
      by_cases c41 : x5 = 0
      · have hf := pm_it hf c41
        by_cases c42 : x4 = 32
        · have hf := pm_it hf c42
          by_cases c43 : ((s0.toUInt64 >>> ((32 : Int32).toInt64.toUInt64 &&& Int64.toUInt64 63)).toInt64) = 0
          · have hf := pm_it hf c43
            exact pm_S3.trans (kpX16_towards_b240 hf) K0
          · have hf := pm_ie hf c43
            exact pm_S3.trans (kpX16_towards_b236 hf) K0
        · have hf := pm_ie hf c42
          exact pm_S3.trans (kpX16_towards_b240 hf) K0
      · have hf := pm_ie hf c41
        obtain ⟨v44, e45, hf⟩ := pm_lt hf
        by_cases c46 : v44 = 0
        · have hf := pm_it hf c46
          exact pm_S3.trans (kpX16_towards_b236 hf) K0
        · have hf := pm_ie hf c46
          exact pm_S3.trans (kpX16_towards_b240 hf) K0
    · have hf := pm_ie hf c40
      by_cases c47 : x5 = 0
      · have hf := pm_it hf c47
        by_cases c48 : s0 = 0
        · have hf := pm_it hf c48
          exact pm_S3.trans (kpX16_towards_b240 hf) K0
        · have hf := pm_ie hf c48
          exact pm_S3.trans (kpX16_towards_b236 hf) K0
      · have hf := pm_ie hf c47
        obtain ⟨v49, e50, hf⟩ := pm_lt hf
        by_cases c51 : v49 = 0
        · have hf := pm_it hf c51
          exact pm_S3.trans (kpX16_towards_b240 hf) K0
        · have hf := pm_ie hf c51
          exact pm_S3.trans (kpX16_towards_b236 hf) K0
  · have hf := pm_ie hf c35
    exact pm_S3.trans (kpX16_towards_b236 hf) K0
set_option maxHeartbeats 4000000 in
set_option maxRecDepth 100000 in
theorem kpX16_towards_b115 {h : pm_H} {x0 : Nat} {x4 : Int32} {x5 : Int32} {x6 : Int32} {x8 : Int32} {r : (Int64 × pm_H)} (hf : fX16_towards_b115 h x0 x4 x5 x6 x8 = some r) : pm_S3 r.2 h := by
  unfold fX16_towards_b115 at hf
  have K0 := pm_S3.rf h
  exact pm_S3.trans (kpX16_towards_b148 hf) K0
set_option maxHeartbeats 4000000 in
set_option maxRecDepth 100000 in
theorem kpX16_towards_b91 {h : pm_H} {x0 : Nat} {x4 : Int32} {x5 : Int32} {x6 : Int32} {x7 : Int32} {s0 : Int32} {r : (Int64 × pm_H)} (hf : fX16_towards_b91 h x0 x4 x5 x6 x7 s0 = some r) : pm_S3 r.2 h := by
  unfold fX16_towards_b91 at hf
  have K0 := pm_S3.rf h
  obtain ⟨k25, hf⟩ := pm_if hf
  obtain ⟨v26, e27, hf⟩ := pm_bd hf
  obtain ⟨k28, hf⟩ := pm_if hf
  by_cases c29 : (pm_I h v26 1) = 0
  · have hf := pm_it hf c29
    by_cases c30 : s0 = 0
    · have hf := pm_it hf c30
      by_cases c31 : (-63) ≤ x7
      · have hf := pm_it hf c31
        by_cases c32 : 0 ≤ x7
        · have hf := pm_it hf c32
          exact pm_S3.trans (kpX16_towards_b148 hf) K0
        · have hf := pm_ie hf c32
          exact pm_S3.trans (kpX16_towards_b148 hf) K0
      · have hf := pm_ie hf c31
        exact pm_S3.trans (kpX16_towards_b115 hf) K0
    · have hf := pm_ie hf c30
      exact pm_S3.trans (kpX16_towards_b115 hf) K0
  · have hf := pm_ie hf c29
    exact pm_S3.trans (kpX16_towards_b115 hf) K0
set_option maxHeartbeats 4000000 in
set_option maxRecDepth 100000 in
theorem kpX16_towards_b90 {h : pm_H} {x0 : Nat} {x4 : Int32} {x5 : Int32} {x6 : Int32} {x7 : Int32} {r : (Int64 × pm_H)} (hf : fX16_towards_b90 h x0 x4 x5 x6 x7 = some r) : pm_S3 r.2 h := by
  unfold fX16_towards_b90 at hf
  have K0 := pm_S3.rf h
  exact pm_S3.trans (kpX16_towards_b91 hf) K0
set_option maxHeartbeats 4000000 in
set_option maxRecDepth 100000 in
theorem kpX16_towards_b86 {h : pm_H} {x0 : Nat} {x4 : Int32} {x5 : Int32} {x6 : Int32} {x7 : Int32} {r : (Int64 × pm_H)} (hf : fX16_towards_b86 h x0 x4 x5 x6 x7 = some r) : pm_S3 r.2 h := by
  unfold fX16_towards_b86 at hf
  have K0 := pm_S3.rf h
  exact pm_S3.trans (kpX16_towards_b91 hf) K0
set_option maxHeartbeats 4000000 in
set_option maxRecDepth 100000 in
theorem kpX16_towards {h : pm_H} {a0 : Nat} {p1 : Int32} {p2 : Int64} {p3 : Int32} {p4 : Int32} {p5 : Int32} {r : (Int64 × pm_H)} (hf : fX16_towards h a0 p1 p2 p3 p4 p5 = some r) : pm_S3 r.2 h := by
  unfold fX16_towards at hf
  have K0 := pm_S3.rf h
  obtain ⟨k1, hf⟩ := pm_if hf
  obtain ⟨v2, e3, hf⟩ := pm_bd hf
  obtain ⟨k4, hf⟩ := pm_if hf
  obtain ⟨v5, e6, hf⟩ := pm_bd hf
  have K7 := pm_S3.trans (kpX15_read e6) K0
  obtain ⟨k8, hf⟩ := pm_if hf
  obtain ⟨v9, e10, hf⟩ := pm_bd hf
  obtain ⟨k11, hf⟩ := pm_if hf
  by_cases c12 : (pm_I v5 v9 1) = 3
  · have hf := pm_it hf c12
    by_cases c13 : p5 = 0
    · have hf := pm_it hf c13
      obtain ⟨v14, e15, hf⟩ := pm_bd hf
      have K16 := pm_S3.trans (kpX16_traps e15) K7
      cases hf
      exact K16
    · have hf := pm_ie hf c13
      cases hf
      exact K7
  · have hf := pm_ie hf c12
    obtain ⟨y17, e18, hf⟩ := pm_lt hf
    by_cases c19 : (pm_I v5 v9 1) = 2
    · have hf := pm_it hf c19
      exact pm_S3.trans (kpX16_towards_b86 hf) K7
    · have hf := pm_ie hf c19
      by_cases c20 : (pm_I v5 v9 1) = 0
      · have hf := pm_it hf c20
        by_cases c21 : y17 ≤ 0
        · have hf := pm_it hf c21
          exact pm_S3.trans (kpX16_towards_b90 hf) K7
        · have hf := pm_ie hf c21
          obtain ⟨v22, e23, hf⟩ := pm_bd hf
          by_cases c24 : (v22 + y17) ≤ 64
          · have hf := pm_it hf c24
            exact pm_S3.trans (kpX16_towards_b90 hf) K7
          · have hf := pm_ie hf c24
            exact pm_S3.trans (kpX16_towards_b86 hf) K7
      · have hf := pm_ie hf c20
        exact pm_S3.trans (kpX16_towards_b90 hf) K7
set_option maxHeartbeats 4000000 in
set_option maxRecDepth 100000 in
theorem kpX16_wholeOf_b204 {h : pm_H} {x0 : Nat} {x2 : Int32} {x6 : Int64} {s0 : Int32} {r : (Int64 × pm_H)} (hf : fX16_wholeOf_b204 h x0 x2 x6 s0 = some r) : pm_S3 r.2 h := by
  unfold fX16_wholeOf_b204 at hf
  have K0 := pm_S3.rf h
  by_cases c43 : s0 = 0
  · have hf := pm_it hf c43
    by_cases c44 : x6 = 0
    · have hf := pm_it hf c44
      obtain ⟨k45, hf⟩ := pm_if hf
      obtain ⟨v46, e47, hf⟩ := pm_bd hf
      obtain ⟨k48, hf⟩ := pm_if hf
      obtain ⟨v49, e50, hf⟩ := pm_lt hf
      cases hf
      exact K0
    · have hf := pm_ie hf c44
      obtain ⟨k51, hf⟩ := pm_if hf
      obtain ⟨v52, e53, hf⟩ := pm_bd hf
      obtain ⟨k54, hf⟩ := pm_if hf
      obtain ⟨v55, e56, hf⟩ := pm_bd hf
      cases hf
      exact K0
  · have hf := pm_ie hf c43
    obtain ⟨y57, e58, hf⟩ := pm_lt hf
    by_cases c59 : y57 = 0
    · have hf := pm_it hf c59
      obtain ⟨k60, hf⟩ := pm_if hf
      obtain ⟨v61, e62, hf⟩ := pm_bd hf
      obtain ⟨k63, hf⟩ := pm_if hf
      obtain ⟨v64, e65, hf⟩ := pm_lt hf
      cases hf
      exact K0
    · have hf := pm_ie hf c59
      obtain ⟨k66, hf⟩ := pm_if hf
      obtain ⟨v67, e68, hf⟩ := pm_bd hf
      obtain ⟨k69, hf⟩ := pm_if hf
      obtain ⟨v70, e71, hf⟩ := pm_bd hf
      cases hf
      exact K0
set_option maxHeartbeats 4000000 in
set_option maxRecDepth 100000 in
theorem kpX16_wholeOf_b203 {h : pm_H} {x0 : Nat} {x2 : Int32} {x6 : Int64} {r : (Int64 × pm_H)} (hf : fX16_wholeOf_b203 h x0 x2 x6 = some r) : pm_S3 r.2 h := by
  unfold fX16_wholeOf_b203 at hf
  have K0 := pm_S3.rf h
  exact pm_S3.trans (kpX16_wholeOf_b204 hf) K0
set_option maxHeartbeats 4000000 in
set_option maxRecDepth 100000 in
theorem kpX16_wholeOf_b199 {h : pm_H} {x0 : Nat} {x2 : Int32} {x6 : Int64} {r : (Int64 × pm_H)} (hf : fX16_wholeOf_b199 h x0 x2 x6 = some r) : pm_S3 r.2 h := by
  unfold fX16_wholeOf_b199 at hf
  have K0 := pm_S3.rf h
  exact pm_S3.trans (kpX16_wholeOf_b204 hf) K0
set_option maxHeartbeats 4000000 in
set_option maxRecDepth 100000 in
theorem kpX16_wholeOf_b169 {h : pm_H} {x0 : Nat} {x1 : Int32} {x2 : Int32} {x6 : Int64} {x8 : Int64} {x10 : Int64} {r : (Int64 × pm_H)} (hf : fX16_wholeOf_b169 h x0 x1 x2 x6 x8 x10 = some r) : pm_S3 r.2 h := by
  unfold fX16_wholeOf_b169 at hf
  have K0 := pm_S3.rf h
  by_cases c72 : x1 = 3
  · have hf := pm_it hf c72
    by_cases c73 : x10 < x8
    · have hf := pm_it hf c73
      exact pm_S3.trans (kpX16_wholeOf_b199 hf) K0
    · have hf := pm_ie hf c73
      by_cases c74 : x8 = x10
      · have hf := pm_it hf c74
        by_cases c75 : (x6 &&& 1) = 1
        · have hf := pm_it hf c75
          exact pm_S3.trans (kpX16_wholeOf_b199 hf) K0
        · have hf := pm_ie hf c75
          exact pm_S3.trans (kpX16_wholeOf_b203 hf) K0
      · have hf := pm_ie hf c74
        exact pm_S3.trans (kpX16_wholeOf_b203 hf) K0
  · have hf := pm_ie hf c72
    exact pm_S3.trans (kpX16_wholeOf_b203 hf) K0
set_option maxHeartbeats 4000000 in
set_option maxRecDepth 100000 in
theorem kpX16_wholeOf_b154 {h : pm_H} {x0 : Nat} {x1 : Int32} {x2 : Int32} {x6 : Int64} {x8 : Int64} {x10 : Int64} {r : (Int64 × pm_H)} (hf : fX16_wholeOf_b154 h x0 x1 x2 x6 x8 x10 = some r) : pm_S3 r.2 h := by
  unfold fX16_wholeOf_b154 at hf
  have K0 := pm_S3.rf h
  by_cases c37 : x1 = 1
  · have hf := pm_it hf c37
    obtain ⟨k38, hf⟩ := pm_if hf
    obtain ⟨v39, e40, hf⟩ := pm_bd hf
    obtain ⟨k41, hf⟩ := pm_if hf
    by_cases c42 : (pm_I h v39 0) = 0
    · have hf := pm_it hf c42
      exact pm_S3.trans (kpX16_wholeOf_b169 hf) K0
    · have hf := pm_ie hf c42
      exact pm_S3.trans (kpX16_wholeOf_b199 hf) K0
  · have hf := pm_ie hf c37
    exact pm_S3.trans (kpX16_wholeOf_b169 hf) K0
set_option maxHeartbeats 4000000 in
set_option maxRecDepth 100000 in
theorem kpX16_wholeOf_b131 {h : pm_H} {x0 : Nat} {x1 : Int32} {x2 : Int32} {x6 : Int64} {x8 : Int64} {s0 : Int64} {r : (Int64 × pm_H)} (hf : fX16_wholeOf_b131 h x0 x1 x2 x6 x8 s0 = some r) : pm_S3 r.2 h := by
  unfold fX16_wholeOf_b131 at hf
  have K0 := pm_S3.rf h
  by_cases c30 : x8 = 0
  · have hf := pm_it hf c30
    exact pm_S3.trans (kpX16_wholeOf_b203 hf) K0
  · have hf := pm_ie hf c30
    by_cases c31 : x1 = 0
    · have hf := pm_it hf c31
      obtain ⟨k32, hf⟩ := pm_if hf
      obtain ⟨v33, e34, hf⟩ := pm_bd hf
      obtain ⟨k35, hf⟩ := pm_if hf
      by_cases c36 : (pm_I h v33 0) = 0
      · have hf := pm_it hf c36
        exact pm_S3.trans (kpX16_wholeOf_b199 hf) K0
      · have hf := pm_ie hf c36
        exact pm_S3.trans (kpX16_wholeOf_b154 hf) K0
    · have hf := pm_ie hf c31
      exact pm_S3.trans (kpX16_wholeOf_b154 hf) K0
set_option maxHeartbeats 4000000 in
set_option maxRecDepth 100000 in
theorem kpX16_wholeOf_b110 {h : pm_H} {x0 : Nat} {x1 : Int32} {x2 : Int32} {x5 : Int32} {x6 : Int64} {s0 : Int64} {r : (Int64 × pm_H)} (hf : fX16_wholeOf_b110 h x0 x1 x2 x5 x6 s0 = some r) : pm_S3 r.2 h := by
  unfold fX16_wholeOf_b110 at hf
  have K0 := pm_S3.rf h
  by_cases c29 : x5 ≤ 62
  · have hf := pm_it hf c29
    exact pm_S3.trans (kpX16_wholeOf_b131 hf) K0
  · have hf := pm_ie hf c29
    exact pm_S3.trans (kpX16_wholeOf_b131 hf) K0
set_option maxHeartbeats 4000000 in
set_option maxRecDepth 100000 in
theorem kpX16_wholeOf_b78 {h : pm_H} {x0 : Nat} {x1 : Int32} {x2 : Int32} {x5 : Int32} {s0 : Int64} {r : (Int64 × pm_H)} (hf : fX16_wholeOf_b78 h x0 x1 x2 x5 s0 = some r) : pm_S3 r.2 h := by
  unfold fX16_wholeOf_b78 at hf
  have K0 := pm_S3.rf h
  by_cases c20 : x5 ≤ 62
  · have hf := pm_it hf c20
    obtain ⟨k21, hf⟩ := pm_if hf
    obtain ⟨v22, e23, hf⟩ := pm_bd hf
    obtain ⟨k24, hf⟩ := pm_if hf
    exact pm_S3.trans (kpX16_wholeOf_b110 hf) K0
  · have hf := pm_ie hf c20
    obtain ⟨k25, hf⟩ := pm_if hf
    obtain ⟨v26, e27, hf⟩ := pm_bd hf
    obtain ⟨k28, hf⟩ := pm_if hf
    exact pm_S3.trans (kpX16_wholeOf_b110 hf) K0
set_option maxHeartbeats 4000000 in
set_option maxRecDepth 100000 in
theorem kpX16_wholeOf {h : pm_H} {a0 : Nat} {p1 : Int32} {p2 : Int32} {p3 : Int64} {r : (Int64 × pm_H)} (hf : fX16_wholeOf h a0 p1 p2 p3 = some r) : pm_S3 r.2 h := by
  unfold fX16_wholeOf at hf
  have K0 := pm_S3.rf h
  obtain ⟨k1, hf⟩ := pm_if hf
  obtain ⟨v2, e3, hf⟩ := pm_bd hf
  obtain ⟨k4, hf⟩ := pm_if hf
  obtain ⟨v5, e6, hf⟩ := pm_bd hf
  have K7 := pm_S3.trans (kpX15_read e6) K0
  obtain ⟨k8, hf⟩ := pm_if hf
  obtain ⟨v9, e10, hf⟩ := pm_bd hf
  obtain ⟨k11, hf⟩ := pm_if hf
  by_cases c12 : (pm_I v5 v9 1) = 3
  · have hf := pm_it hf c12
    obtain ⟨v13, e14, hf⟩ := pm_lt hf
    cases hf
    exact K7
  · have hf := pm_ie hf c12
    by_cases c15 : (pm_I v5 v9 1) = 0
    · have hf := pm_it hf c15
      by_cases c16 : (pm_I v5 v9 3) < 0
      · have hf := pm_it hf c16
        obtain ⟨y17, e18, hf⟩ := pm_lt hf
        by_cases c19 : y17 ≤ 62
        · have hf := pm_it hf c19
          exact pm_S3.trans (kpX16_wholeOf_b78 hf) K7
        · have hf := pm_ie hf c19
          exact pm_S3.trans (kpX16_wholeOf_b78 hf) K7
      · have hf := pm_ie hf c16
        cases hf
        exact K7
    · have hf := pm_ie hf c15
      cases hf
      exact K7
set_option maxHeartbeats 4000000 in
set_option maxRecDepth 100000 in
theorem kpX1_die {h : pm_H} {a0 : Nat} {r : pm_H} (hf : fX1_die h a0 = some r) : pm_S3 r h := by
  unfold fX1_die at hf
  have K0 := pm_S3.rf h
  obtain ⟨k1, hf⟩ := pm_if hf
  obtain ⟨y2, e3, hf⟩ := pm_lt hf
  obtain ⟨v4, e5, hf⟩ := pm_bd hf
  obtain ⟨v6, e7, hf⟩ := pm_bd hf
  have K8 := pm_S3.trans (kpX1_setLabel e7) K0
  cases hf
  exact K8
set_option maxHeartbeats 4000000 in
set_option maxRecDepth 100000 in
theorem kpX1_emit {h : pm_H} {a0 : Nat} {p1 : Int32} {p2 : Int32} {p3 : Int32} {p4 : Int32} {r : (Int32 × pm_H)} (hf : fX1_emit h a0 p1 p2 p3 p4 = some r) : pm_S3 r.2 h := by
  unfold fX1_emit at hf
  have K0 := pm_S3.rf h
  obtain ⟨k1, hf⟩ := pm_if hf
  obtain ⟨v2, e3, hf⟩ := pm_bd hf
  by_cases c4 : v2 = 0
  · have hf := pm_it hf c4
    cases hf
    exact K0
  · have hf := pm_ie hf c4
    obtain ⟨v5, e6, hf⟩ := pm_bd hf
    obtain ⟨k7, hf⟩ := pm_if hf
    obtain ⟨v8, e9, hf⟩ := pm_bd hf
    have K10 := pm_S3.trans (kpX0_emit e9) K0
    cases hf
    exact K10
set_option maxHeartbeats 4000000 in
set_option maxRecDepth 100000 in
theorem kpX1_emitPlain {h : pm_H} {a0 : Nat} {p1 : Int32} {p2 : Int32} {r : pm_H} (hf : fX1_emitPlain h a0 p1 p2 = some r) : pm_S3 r h := by
  unfold fX1_emitPlain at hf
  have K0 := pm_S3.rf h
  obtain ⟨k1, hf⟩ := pm_if hf
  obtain ⟨v2, e3, hf⟩ := pm_bd hf
  obtain ⟨k4, hf⟩ := pm_if hf
  by_cases c5 : p2 = 0
  · have hf := pm_it hf c5
    obtain ⟨v6, e7, hf⟩ := pm_bd hf
    have K8 := pm_S3.trans (kpX1_emit e7) K0
    cases hf
    exact K8
  · have hf := pm_ie hf c5
    obtain ⟨v9, e10, hf⟩ := pm_bd hf
    have K11 := pm_S3.trans (kpX1_emit e10) K0
    cases hf
    exact K11
set_option maxHeartbeats 4000000 in
set_option maxRecDepth 100000 in
theorem klX1_exportsAreRight {r : pm_H} : ∀ n : Nat, (∀ (x0 : Nat) (x1 : Int32) (h : pm_H), pm_iter sX1_exportsAreRight n (.inl (x0, x1, h)) = some r → pm_S3 r h) ∧ (∀ (x0 : Nat) (x1 : Int32) (x4 : Int32) (h : pm_H), pm_iter sX1_exportsAreRight n (.inr (x0, x1, x4, h)) = some r → pm_S3 r h) := by
  intro n
  induction n with
  | zero => exact ⟨fun _ _ _ hf => (by cases hf), fun _ _ _ _ hf => (by cases hf)⟩
  | succ n ih =>
    refine ⟨fun x0 x1 h hf => ?_, ?_⟩
    · obtain ⟨y, hf, hi⟩ := pm_iter_s hf
      have hf : tX1_exportsAreRight_2 x0 x1 h = some y := hf
      unfold tX1_exportsAreRight_2 at hf
      have K0 := pm_S3.rf h
      obtain ⟨k1, hf⟩ := pm_if hf
      obtain ⟨v2, e3, hf⟩ := pm_bd hf
      obtain ⟨k4, hf⟩ := pm_if hf
      obtain ⟨v5, e6, hf⟩ := pm_bd hf
      obtain ⟨k7, hf⟩ := pm_if hf
      by_cases c8 : (Int32.ofNat (pm_ln h v5)) ≤ x1
      · have hf := pm_it hf c8
        cases hf
        cases hi
        exact K0
      · have hf := pm_ie hf c8
        obtain ⟨v9, e10, hf⟩ := pm_bd hf
        obtain ⟨v11, e12, hf⟩ := pm_bd hf
        obtain ⟨v13, e14, hf⟩ := pm_bd hf
        by_cases c15 : v13 = 0
        · have hf := pm_it hf c15
          obtain ⟨v16, e17, hf⟩ := pm_bd hf
          have K18 := pm_S3.trans (kpX1_failSection e17) K0
          by_cases c19 : v9 = 0
          · have hf := pm_it hf c19
            obtain ⟨k20, hf⟩ := pm_if hf
            obtain ⟨v21, e22, hf⟩ := pm_bd hf
            have K23 := pm_S3.trans (kpX1_declare e22) K18
            cases hf
            exact pm_S3.trans (ih.2 x0 x1 0 v21 hi) K23
          · have hf := pm_ie hf c19
            cases hf
            exact pm_S3.trans (ih.2 x0 x1 0 v16 hi) K18
        · have hf := pm_ie hf c15
          by_cases c24 : v9 = 0
          · have hf := pm_it hf c24
            obtain ⟨v25, e26, hf⟩ := pm_bd hf
            have K27 := pm_S3.trans (kpX1_declare e26) K0
            cases hf
            exact pm_S3.trans (ih.2 x0 x1 0 v25 hi) K27
          · have hf := pm_ie hf c24
            cases hf
            exact pm_S3.trans (ih.2 x0 x1 0 h hi) K0
    refine fun x0 x1 x4 h hf => ?_
    obtain ⟨y, hf, hi⟩ := pm_iter_s hf
    have hf : tX1_exportsAreRight_76 x0 x1 x4 h = some y := hf
    unfold tX1_exportsAreRight_76 at hf
    have K0 := pm_S3.rf h
    by_cases c28 : x1 ≤ x4
    · have hf := pm_it hf c28
      obtain ⟨y29, e30, hf⟩ := pm_lt hf
      cases hf
      exact pm_S3.trans (ih.1 x0 y29 h hi) K0
    · have hf := pm_ie hf c28
      obtain ⟨k31, hf⟩ := pm_if hf
      obtain ⟨v32, e33, hf⟩ := pm_bd hf
      by_cases c34 : v32 = 0
      · have hf := pm_it hf c34
        obtain ⟨y35, e36, hf⟩ := pm_lt hf
        cases hf
        exact pm_S3.trans (ih.2 x0 x1 y35 h hi) K0
      · have hf := pm_ie hf c34
        obtain ⟨v37, e38, hf⟩ := pm_bd hf
        have K39 := pm_S3.trans (kpX1_failSection e38) K0
        obtain ⟨y40, e41, hf⟩ := pm_lt hf
        cases hf
        exact pm_S3.trans (ih.2 x0 x1 y40 v37 hi) K39
set_option maxHeartbeats 4000000 in
set_option maxRecDepth 100000 in
theorem kpX1_exportsAreRight {h : pm_H} {a0 : Nat} {r : pm_H} (hf : fX1_exportsAreRight h a0 = some r) : pm_S3 r h := by
  unfold fX1_exportsAreRight at hf
  have K0 := pm_S3.rf h
  obtain ⟨n, hn⟩ := pm_lim_iter hf
  exact pm_S3.trans ((klX1_exportsAreRight n).1 a0 0 h hn) K0
set_option maxHeartbeats 4000000 in
set_option maxRecDepth 100000 in
theorem klX1_limitsAreRight {r : pm_H} : ∀ n : Nat, (∀ (x0 : Nat) (x1 : Int32) (h : pm_H), pm_iter sX1_limitsAreRight n (.inl (x0, x1, h)) = some r → pm_S3 r h) ∧ (∀ (x0 : Nat) (x1 : Int32) (h : pm_H), pm_iter sX1_limitsAreRight n (.inr (.inl (x0, x1, h))) = some r → pm_S3 r h) ∧ (∀ (x0 : Nat) (x1 : Int32) (h : pm_H), pm_iter sX1_limitsAreRight n (.inr (.inr (x0, x1, h))) = some r → pm_S3 r h) := by
  intro n
  induction n with
  | zero => exact ⟨fun _ _ _ hf => (by cases hf), fun _ _ _ hf => (by cases hf), fun _ _ _ hf => (by cases hf)⟩
  | succ n ih =>
    refine ⟨fun x0 x1 h hf => ?_, ?_⟩
    · obtain ⟨y, hf, hi⟩ := pm_iter_s hf
      have hf : tX1_limitsAreRight_2 x0 x1 h = some y := hf
      unfold tX1_limitsAreRight_2 at hf
      have K0 := pm_S3.rf h
      obtain ⟨k1, hf⟩ := pm_if hf
      obtain ⟨v2, e3, hf⟩ := pm_bd hf
      obtain ⟨k4, hf⟩ := pm_if hf
      obtain ⟨v5, e6, hf⟩ := pm_bd hf
      obtain ⟨k7, hf⟩ := pm_if hf
      by_cases c8 : (Int32.ofNat (pm_ln h v5)) ≤ x1
      · have hf := pm_it hf c8
        obtain ⟨v9, e10, hf⟩ := pm_bd hf
        cases hf
        exact pm_S3.trans (ih.2.1 x0 v9 h hi) K0
      · have hf := pm_ie hf c8
        obtain ⟨v11, e12, hf⟩ := pm_bd hf
        by_cases c13 : v11 = 0
        · have hf := pm_it hf c13
          obtain ⟨v14, e15, hf⟩ := pm_bd hf
          have K16 := pm_S3.trans (kpX1_failSection e15) K0
          obtain ⟨y17, e18, hf⟩ := pm_lt hf
          cases hf
          exact pm_S3.trans (ih.1 x0 y17 v14 hi) K16
        · have hf := pm_ie hf c13
          obtain ⟨y19, e20, hf⟩ := pm_lt hf
          cases hf
          exact pm_S3.trans (ih.1 x0 y19 h hi) K0
    refine ⟨fun x0 x1 h hf => ?_, ?_⟩
    · obtain ⟨y, hf, hi⟩ := pm_iter_s hf
      have hf : tX1_limitsAreRight_50 x0 x1 h = some y := hf
      unfold tX1_limitsAreRight_50 at hf
      have K0 := pm_S3.rf h
      obtain ⟨k21, hf⟩ := pm_if hf
      obtain ⟨v22, e23, hf⟩ := pm_bd hf
      obtain ⟨k24, hf⟩ := pm_if hf
      obtain ⟨v25, e26, hf⟩ := pm_bd hf
      by_cases c27 : v25 ≤ x1
      · have hf := pm_it hf c27
        obtain ⟨v28, e29, hf⟩ := pm_bd hf
        cases hf
        exact pm_S3.trans (ih.2.2 x0 v28 h hi) K0
      · have hf := pm_ie hf c27
        obtain ⟨v30, e31, hf⟩ := pm_bd hf
        obtain ⟨v32, e33, hf⟩ := pm_bd hf
        by_cases c34 : v32 = 0
        · have hf := pm_it hf c34
          obtain ⟨v35, e36, hf⟩ := pm_bd hf
          have K37 := pm_S3.trans (kpX1_failSection e36) K0
          obtain ⟨y38, e39, hf⟩ := pm_lt hf
          cases hf
          exact pm_S3.trans (ih.2.1 x0 y38 v35 hi) K37
        · have hf := pm_ie hf c34
          obtain ⟨y40, e41, hf⟩ := pm_lt hf
          cases hf
          exact pm_S3.trans (ih.2.1 x0 y40 h hi) K0
    refine fun x0 x1 h hf => ?_
    obtain ⟨y, hf, hi⟩ := pm_iter_s hf
    have hf : tX1_limitsAreRight_101 x0 x1 h = some y := hf
    unfold tX1_limitsAreRight_101 at hf
    have K0 := pm_S3.rf h
    obtain ⟨k42, hf⟩ := pm_if hf
    obtain ⟨v43, e44, hf⟩ := pm_bd hf
    obtain ⟨k45, hf⟩ := pm_if hf
    obtain ⟨v46, e47, hf⟩ := pm_bd hf
    by_cases c48 : v46 ≤ x1
    · have hf := pm_it hf c48
      cases hf
      cases hi
      exact K0
    · have hf := pm_ie hf c48
      obtain ⟨v49, e50, hf⟩ := pm_bd hf
      obtain ⟨v51, e52, hf⟩ := pm_bd hf
      by_cases c53 : v51 = 0
      · have hf := pm_it hf c53
        obtain ⟨v54, e55, hf⟩ := pm_bd hf
        have K56 := pm_S3.trans (kpX1_failSection e55) K0
        obtain ⟨y57, e58, hf⟩ := pm_lt hf
        cases hf
        exact pm_S3.trans (ih.2.2 x0 y57 v54 hi) K56
      · have hf := pm_ie hf c53
        obtain ⟨y59, e60, hf⟩ := pm_lt hf
        cases hf
        exact pm_S3.trans (ih.2.2 x0 y59 h hi) K0
set_option maxHeartbeats 4000000 in
set_option maxRecDepth 100000 in
theorem kpX1_limitsAreRight {h : pm_H} {a0 : Nat} {r : pm_H} (hf : fX1_limitsAreRight h a0 = some r) : pm_S3 r h := by
  unfold fX1_limitsAreRight at hf
  have K0 := pm_S3.rf h
  obtain ⟨n, hn⟩ := pm_lim_iter hf
  exact pm_S3.trans ((klX1_limitsAreRight n).1 a0 0 h hn) K0
set_option maxHeartbeats 4000000 in
set_option maxRecDepth 100000 in
theorem kpX1_memoryIsOne {h : pm_H} {a0 : Nat} {r : pm_H} (hf : fX1_memoryIsOne h a0 = some r) : pm_S3 r h := by
  unfold fX1_memoryIsOne at hf
  have K0 := pm_S3.rf h
  obtain ⟨k1, hf⟩ := pm_if hf
  obtain ⟨v2, e3, hf⟩ := pm_bd hf
  obtain ⟨k4, hf⟩ := pm_if hf
  obtain ⟨v5, e6, hf⟩ := pm_bd hf
  by_cases c7 : 1 < v5
  · have hf := pm_it hf c7
    obtain ⟨v8, e9, hf⟩ := pm_bd hf
    obtain ⟨v10, e11, hf⟩ := pm_bd hf
    by_cases c12 : v10 < 0
    · have hf := pm_it hf c12
      obtain ⟨v13, e14, hf⟩ := pm_bd hf
      have K15 := pm_S3.trans (kpX1_failSection e14) K0
      cases hf
      exact K15
    · have hf := pm_ie hf c12
      obtain ⟨v16, e17, hf⟩ := pm_bd hf
      have K18 := pm_S3.trans (kpX1_failSection e17) K0
      cases hf
      exact K18
  · have hf := pm_ie hf c7
    cases hf
    exact K0
