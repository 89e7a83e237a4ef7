set_option maxHeartbeats 4000000 in
set_option maxRecDepth 100000 in
theorem klX16_root {r : (Int64 × pm_H)} : ∀ n : Nat, (∀ (x1 : Int32) (x4 : Int64) (x6 : Int32) (h : pm_H), pm_iter sX16_root n (.inl (x1, x4, x6, h)) = some r → pm_S3 r.2 h) ∧ (∀ (x1 : Int32) (x4 : Int64) (x6 : Int32) (x7 : Int64) (x9 : Int64) (x11 : Int32) (h : pm_H), pm_iter sX16_root n (.inr (x1, x4, x6, x7, x9, x11, h)) = some r → pm_S3 r.2 h) := by
  intro n
  induction n with
  | zero => exact ⟨fun _ _ _ _ hf => (by cases hf), fun _ _ _ _ _ _ _ hf => (by cases hf)⟩
  | succ n ih =>
    refine ⟨fun x1 x4 x6 h hf => ?_, ?_⟩
    · obtain ⟨y, hf, hi⟩ := pm_iter_s hf
      have hf : tX16_root_79 x1 x4 x6 h = some y := hf
      unfold tX16_root_79 at hf
      have K0 := pm_S3.rf h
      by_cases c24 : x4 < 4503599627370496
      · have hf := pm_it hf c24
        obtain ⟨y25, e26, hf⟩ := pm_lt hf
        obtain ⟨y27, e28, hf⟩ := pm_lt hf
        cases hf
        exact pm_S3.trans (ih.1 x1 y25 y27 h hi) K0
      · have hf := pm_ie hf c24
        by_cases c29 : (x6 - x6 / 2 * 2) = 0
        · have hf := pm_it hf c29
          cases hf
          exact pm_S3.trans (ih.2 x1 x4 x6 0 0 28 h hi) K0
        · have hf := pm_ie hf c29
          obtain ⟨y30, e31, hf⟩ := pm_lt hf
          obtain ⟨y32, e33, hf⟩ := pm_lt hf
          cases hf
          exact pm_S3.trans (ih.1 x1 y30 y32 h hi) K0
    refine fun x1 x4 x6 x7 x9 x11 h hf => ?_
    obtain ⟨y, hf, hi⟩ := pm_iter_s hf
    have hf : tX16_root_117 x1 x4 x6 x7 x9 x11 h = some y := hf
    unfold tX16_root_117 at hf
    have K0 := pm_S3.rf h
    by_cases c34 : x11 ≤ (-30)
    · have hf := pm_it hf c34
      by_cases c35 : x7 = 0
      · have hf := pm_it hf c35
        obtain ⟨v36, e37, hf⟩ := pm_bd hf
        cases hf
        cases hi
        exact K0
      · have hf := pm_ie hf c35
        obtain ⟨v38, e39, hf⟩ := pm_bd hf
        cases hf
        cases hi
        exact K0
    · have hf := pm_ie hf c34
      by_cases c40 : 0 ≤ x11
      · have hf := pm_it hf c40
        obtain ⟨y41, e42, hf⟩ := pm_lt hf
        obtain ⟨y43, e44, hf⟩ := pm_lt hf
        obtain ⟨y45, e46, hf⟩ := pm_lt hf
        by_cases c47 : y41 < y43
        · have hf := pm_it hf c47
          obtain ⟨y48, e49, hf⟩ := pm_lt hf
          cases hf
          exact pm_S3.trans (ih.2 x1 x4 x6 y41 y45 y48 h hi) K0
        · have hf := pm_ie hf c47
          obtain ⟨y50, e51, hf⟩ := pm_lt hf
          obtain ⟨y52, e53, hf⟩ := pm_lt hf
          obtain ⟨y54, e55, hf⟩ := pm_lt hf
          cases hf
          exact pm_S3.trans (ih.2 x1 x4 x6 y50 y52 y54 h hi) K0
      · have hf := pm_ie hf c40
        obtain ⟨y56, e57, hf⟩ := pm_lt hf
        obtain ⟨y58, e59, hf⟩ := pm_lt hf
        obtain ⟨y60, e61, hf⟩ := pm_lt hf
        by_cases c62 : y56 < y58
        · have hf := pm_it hf c62
          obtain ⟨y63, e64, hf⟩ := pm_lt hf
          cases hf
          exact pm_S3.trans (ih.2 x1 x4 x6 y56 y60 y63 h hi) K0
        · have hf := pm_ie hf c62
          obtain ⟨y65, e66, hf⟩ := pm_lt hf
          obtain ⟨y67, e68, hf⟩ := pm_lt hf
          obtain ⟨y69, e70, hf⟩ := pm_lt hf
          cases hf
          exact pm_S3.trans (ih.2 x1 x4 x6 y65 y67 y69 h hi) K0
set_option maxHeartbeats 4000000 in
set_option maxRecDepth 100000 in
theorem kpX16_root {h : pm_H} {a0 : Nat} {p1 : Int32} {p2 : Int64} {r : (Int64 × pm_H)} (hf : fX16_root h a0 p1 p2 = some r) : pm_S3 r.2 h := by
  unfold fX16_root at hf
  have K0 := pm_S3.rf h
  obtain ⟨k1, hf⟩ := pm_if hf
  obtain ⟨v2, e3, hf⟩ := pm_bd hf
  obtain ⟨k4, hf⟩ := pm_if hf
  obtain ⟨v5, e6, hf⟩ := pm_bd hf
  have K7 := pm_S3.trans (kpX15_read e6) K0
  obtain ⟨k8, hf⟩ := pm_if hf
  obtain ⟨v9, e10, hf⟩ := pm_bd hf
  obtain ⟨k11, hf⟩ := pm_if hf
  by_cases c12 : (pm_I v5 v9 1) = 1
  · have hf := pm_it hf c12
    cases hf
    exact K7
  · have hf := pm_ie hf c12
    by_cases c13 : (pm_I v5 v9 1) = 3
    · have hf := pm_it hf c13
      obtain ⟨v14, e15, hf⟩ := pm_lt hf
      cases hf
      exact K7
    · have hf := pm_ie hf c13
      by_cases c16 : (pm_I v5 v9 0) = 0
      · have hf := pm_it hf c16
        by_cases c17 : (pm_I v5 v9 1) = 2
        · have hf := pm_it hf c17
          cases hf
          exact K7
        · have hf := pm_ie hf c17
          obtain ⟨y18, e19, hf⟩ := pm_lt hf
          obtain ⟨y20, e21, hf⟩ := pm_lt hf
          obtain ⟨n, hn⟩ := pm_lim_iter hf
          exact pm_S3.trans ((klX16_root n).1 p1 y18 y20 v5 hn) K7
      · have hf := pm_ie hf c16
        obtain ⟨v22, e23, hf⟩ := pm_lt hf
        cases hf
        exact K7
set_option maxHeartbeats 4000000 in
set_option maxRecDepth 100000 in
theorem kpX16_sum_b207 {h : pm_H} {x0 : Nat} {x1 : Int32} {x2 : Int64} {x4 : Int64} {r : (Int64 × pm_H)} (hf : fX16_sum_b207 h x0 x1 x2 x4 = some r) : pm_S3 r.2 h := by
  unfold fX16_sum_b207 at hf
  have K0 := pm_S3.rf h
  obtain ⟨k63, hf⟩ := pm_if hf
  obtain ⟨v64, e65, hf⟩ := pm_bd hf
  obtain ⟨k66, hf⟩ := pm_if hf
  by_cases c67 : (pm_I h v64 1) = 1
  · have hf := pm_it hf c67
    obtain ⟨v68, e69, hf⟩ := pm_bd hf
    obtain ⟨k70, hf⟩ := pm_if hf
    obtain ⟨v71, e72, hf⟩ := pm_lt hf
    obtain ⟨v73, e74, hf⟩ := pm_lt hf
    cases hf
    exact K0
  · have hf := pm_ie hf c67
    obtain ⟨v75, e76, hf⟩ := pm_bd hf
    obtain ⟨k77, hf⟩ := pm_if hf
    by_cases c78 : (pm_I h v75 1) = 1
    · have hf := pm_it hf c78
      cases hf
      exact K0
    · have hf := pm_ie hf c78
      by_cases c79 : (pm_I h v64 3) < (pm_I h v75 3)
      · have hf := pm_it hf c79
        by_cases c80 : (pm_I h v64 3) < (pm_I h v75 3)
        · have hf := pm_it hf c80
          obtain ⟨v81, e82, hf⟩ := pm_bd hf
          cases hf
          exact K0
        · have hf := pm_ie hf c80
          obtain ⟨v83, e84, hf⟩ := pm_bd hf
          cases hf
          exact K0
      · have hf := pm_ie hf c79
        by_cases c85 : (pm_I h v64 3) < (pm_I h v75 3)
        · have hf := pm_it hf c85
          obtain ⟨v86, e87, hf⟩ := pm_bd hf
          cases hf
          exact K0
        · have hf := pm_ie hf c85
          obtain ⟨v88, e89, hf⟩ := pm_bd hf
          cases hf
          exact K0
set_option maxHeartbeats 4000000 in
set_option maxRecDepth 100000 in
theorem kpX16_sum_b114 {h : pm_H} {x0 : Nat} {x1 : Int32} {x2 : Int64} {x4 : Int64} {r : (Int64 × pm_H)} (hf : fX16_sum_b114 h x0 x1 x2 x4 = some r) : pm_S3 r.2 h := by
  unfold fX16_sum_b114 at hf
  have K0 := pm_S3.rf h
  obtain ⟨k40, hf⟩ := pm_if hf
  obtain ⟨v41, e42, hf⟩ := pm_bd hf
  obtain ⟨k43, hf⟩ := pm_if hf
  by_cases c44 : (pm_I h v41 1) = 2
  · have hf := pm_it hf c44
    cases hf
    exact K0
  · have hf := pm_ie hf c44
    obtain ⟨v45, e46, hf⟩ := pm_bd hf
    obtain ⟨k47, hf⟩ := pm_if hf
    by_cases c48 : (pm_I h v45 1) = 2
    · have hf := pm_it hf c48
      obtain ⟨v49, e50, hf⟩ := pm_lt hf
      obtain ⟨v51, e52, hf⟩ := pm_lt hf
      cases hf
      exact K0
    · have hf := pm_ie hf c48
      by_cases c53 : (pm_I h v41 1) = 1
      · have hf := pm_it hf c53
        by_cases c54 : (pm_I h v45 1) = 1
        · have hf := pm_it hf c54
          by_cases c55 : (pm_I h v41 0) = 0
          · have hf := pm_it hf c55
            obtain ⟨v56, e57, hf⟩ := pm_lt hf
            cases hf
            exact K0
          · have hf := pm_ie hf c55
            by_cases c58 : (pm_I h v45 0) = 0
            · have hf := pm_it hf c58
              obtain ⟨v59, e60, hf⟩ := pm_lt hf
              cases hf
              exact K0
            · have hf := pm_ie hf c58
              obtain ⟨v61, e62, hf⟩ := pm_lt hf
              cases hf
              exact K0
        · have hf := pm_ie hf c54
          exact pm_S3.trans (kpX16_sum_b207 hf) K0
      · have hf := pm_ie hf c53
        exact pm_S3.trans (kpX16_sum_b207 hf) K0
set_option maxHeartbeats 4000000 in
set_option maxRecDepth 100000 in
theorem kpX16_sum_b40 {h : pm_H} {x0 : Nat} {x1 : Int32} {x2 : Int64} {x4 : Int64} {s0 : Int32} {s1 : Nat} {r : (Int64 × pm_H)} (hf : fX16_sum_b40 h x0 x1 x2 x4 s0 s1 = some r) : pm_S3 r.2 h := by
  unfold fX16_sum_b40 at hf
  have K0 := pm_S3.rf h
  obtain ⟨k20, hf⟩ := pm_if hf
  obtain ⟨u21, hf⟩ := pm_if hf
  obtain ⟨k22, hf⟩ := pm_if hf
  obtain ⟨v23, e24, hf⟩ := pm_bd hf
  obtain ⟨k25, hf⟩ := pm_if hf
  by_cases c26 : (pm_I (pm_setI h s1 0 s0) v23 1) = 3
  · have hf := pm_it hf c26
    obtain ⟨v27, e28, hf⟩ := pm_lt hf
    cases hf
    exact K0
  · have hf := pm_ie hf c26
    obtain ⟨v29, e30, hf⟩ := pm_bd hf
    obtain ⟨k31, hf⟩ := pm_if hf
    by_cases c32 : (pm_I (pm_setI h s1 0 s0) v29 1) = 3
    · have hf := pm_it hf c32
      obtain ⟨v33, e34, hf⟩ := pm_lt hf
      cases hf
      exact K0
    · have hf := pm_ie hf c32
      by_cases c35 : (pm_I (pm_setI h s1 0 s0) v23 1) = 2
      · have hf := pm_it hf c35
        by_cases c36 : (pm_I (pm_setI h s1 0 s0) v29 1) = 2
        · have hf := pm_it hf c36
          by_cases c37 : (pm_I (pm_setI h s1 0 s0) v23 0) = (pm_I (pm_setI h s1 0 s0) v29 0)
          · have hf := pm_it hf c37
            exact pm_S3.trans (kpX16_sum_b114 hf) K0
          · have hf := pm_ie hf c37
            obtain ⟨v38, e39, hf⟩ := pm_lt hf
            cases hf
            exact K0
        · have hf := pm_ie hf c36
          exact pm_S3.trans (kpX16_sum_b114 hf) K0
      · have hf := pm_ie hf c35
        exact pm_S3.trans (kpX16_sum_b114 hf) K0
set_option maxHeartbeats 4000000 in
set_option maxRecDepth 100000 in
theorem kpX16_sum {h : pm_H} {a0 : Nat} {p1 : Int32} {p2 : Int64} {p3 : Int64} {p4 : Int32} {r : (Int64 × pm_H)} (hf : fX16_sum h a0 p1 p2 p3 p4 = some r) : pm_S3 r.2 h := by
  unfold fX16_sum at hf
  have K0 := pm_S3.rf h
  obtain ⟨k1, hf⟩ := pm_if hf
  obtain ⟨v2, e3, hf⟩ := pm_bd hf
  obtain ⟨k4, hf⟩ := pm_if hf
  obtain ⟨v5, e6, hf⟩ := pm_bd hf
  have K7 := pm_S3.trans (kpX15_read e6) K0
  obtain ⟨k8, hf⟩ := pm_if hf
  obtain ⟨v9, e10, hf⟩ := pm_bd hf
  obtain ⟨k11, hf⟩ := pm_if hf
  obtain ⟨v12, e13, hf⟩ := pm_bd hf
  have K14 := pm_S3.trans (kpX15_read e13) K7
  obtain ⟨k15, hf⟩ := pm_if hf
  obtain ⟨v16, e17, hf⟩ := pm_bd hf
  obtain ⟨k18, hf⟩ := pm_if hf
  by_cases c19 : (pm_I v12 v16 0) = p4
  · have hf := pm_it hf c19
    exact pm_S3.trans (kpX16_sum_b40 hf) K14
  · have hf := pm_ie hf c19
    exact pm_S3.trans (kpX16_sum_b40 hf) K14
set_option maxHeartbeats 4000000 in
set_option maxRecDepth 100000 in
theorem kpX16_turned_b101 {h : pm_H} {x0 : Nat} {x1 : Int32} {x2 : Int32} {x3 : Int64} {r : (Int64 × pm_H)} (hf : fX16_turned_b101 h x0 x1 x2 x3 = some r) : pm_S3 r.2 h := by
  unfold fX16_turned_b101 at hf
  have K0 := pm_S3.rf h
  by_cases c44 : x1 = 167
  · have hf := pm_it hf c44
    cases hf
    exact K0
  have hf := pm_ie hf c44
  by_cases c45 : x1 = 168
  · have hf := pm_it hf c45
    cases hf
    exact K0
  have hf := pm_ie hf c45
  by_cases c46 : x1 = 169
  · have hf := pm_it hf c46
    cases hf
    exact K0
  have hf := pm_ie hf c46
  by_cases c47 : x1 = 170
  · have hf := pm_it hf c47
    cases hf
    exact K0
  have hf := pm_ie hf c47
  by_cases c48 : x1 = 171
  · have hf := pm_it hf c48
    cases hf
    exact K0
  have hf := pm_ie hf c48
  by_cases c49 : x1 = 172
  · have hf := pm_it hf c49
    cases hf
    exact K0
  have hf := pm_ie hf c49
  by_cases c50 : x1 = 173
  · have hf := pm_it hf c50
    cases hf
    exact K0
  have hf := pm_ie hf c50
  by_cases c51 : x1 = 174
  · have hf := pm_it hf c51
    cases hf
    exact K0
  have hf := pm_ie hf c51
  by_cases c52 : x1 = 175
  · have hf := pm_it hf c52
    cases hf
    exact K0
  have hf := pm_ie hf c52
  by_cases c53 : x1 = 176
  · have hf := pm_it hf c53
    cases hf
    exact K0
  have hf := pm_ie hf c53
  by_cases c54 : x1 = 177
  · have hf := pm_it hf c54
    cases hf
    exact K0
  have hf := pm_ie hf c54
  by_cases c55 : x1 = 178
  · have hf := pm_it hf c55
    obtain ⟨v56, e57, hf⟩ := pm_lt hf
    by_cases c58 : 0 ≤ x3.toInt32
    · have hf := pm_it hf c58
      by_cases c59 : 0 ≤ x3.toInt32
      · have hf := pm_it hf c59
        obtain ⟨v60, e61, hf⟩ := pm_bd hf
        cases hf
        exact K0
      · have hf := pm_ie hf c59
        obtain ⟨v62, e63, hf⟩ := pm_bd hf
        cases hf
        exact K0
    · have hf := pm_ie hf c58
      by_cases c64 : 0 ≤ x3.toInt32
      · have hf := pm_it hf c64
        obtain ⟨v65, e66, hf⟩ := pm_bd hf
        cases hf
        exact K0
      · have hf := pm_ie hf c64
        obtain ⟨v67, e68, hf⟩ := pm_bd hf
        cases hf
        exact K0
  have hf := pm_ie hf c55
  by_cases c69 : x1 = 179
  · have hf := pm_it hf c69
    obtain ⟨v70, e71, hf⟩ := pm_lt hf
    obtain ⟨v72, e73, hf⟩ := pm_bd hf
    cases hf
    exact K0
  have hf := pm_ie hf c69
  by_cases c74 : x1 = 180
  · have hf := pm_it hf c74
    obtain ⟨v75, e76, hf⟩ := pm_lt hf
    by_cases c77 : 0 ≤ x3
    · have hf := pm_it hf c77
      by_cases c78 : 0 ≤ x3
      · have hf := pm_it hf c78
        obtain ⟨v79, e80, hf⟩ := pm_bd hf
        cases hf
        exact K0
      · have hf := pm_ie hf c78
        obtain ⟨v81, e82, hf⟩ := pm_bd hf
        cases hf
        exact K0
    · have hf := pm_ie hf c77
      by_cases c83 : 0 ≤ x3
      · have hf := pm_it hf c83
        obtain ⟨v84, e85, hf⟩ := pm_bd hf
        cases hf
        exact K0
      · have hf := pm_ie hf c83
        obtain ⟨v86, e87, hf⟩ := pm_bd hf
        cases hf
        exact K0
  have hf := pm_ie hf c74
  by_cases c88 : x1 = 181
  · have hf := pm_it hf c88
    obtain ⟨v89, e90, hf⟩ := pm_lt hf
    obtain ⟨v91, e92, hf⟩ := pm_bd hf
    cases hf
    exact K0
  have hf := pm_ie hf c88
  by_cases c93 : x1 = 182
  · have hf := pm_it hf c93
    obtain ⟨v94, e95, hf⟩ := pm_lt hf
    obtain ⟨k96, hf⟩ := pm_if hf
    obtain ⟨v97, e98, hf⟩ := pm_bd hf
    have K99 := pm_S3.trans (kpX16_moved e98) K0
    cases hf
    exact K99
  have hf := pm_ie hf c93
  by_cases c100 : x1 = 183
  · have hf := pm_it hf c100
    obtain ⟨v101, e102, hf⟩ := pm_lt hf
    by_cases c103 : 0 ≤ x3.toInt32
    · have hf := pm_it hf c103
      by_cases c104 : 0 ≤ x3.toInt32
      · have hf := pm_it hf c104
        obtain ⟨v105, e106, hf⟩ := pm_bd hf
        cases hf
        exact K0
      · have hf := pm_ie hf c104
        obtain ⟨v107, e108, hf⟩ := pm_bd hf
        cases hf
        exact K0
    · have hf := pm_ie hf c103
      by_cases c109 : 0 ≤ x3.toInt32
      · have hf := pm_it hf c109
        obtain ⟨v110, e111, hf⟩ := pm_bd hf
        cases hf
        exact K0
      · have hf := pm_ie hf c109
        obtain ⟨v112, e113, hf⟩ := pm_bd hf
        cases hf
        exact K0
  have hf := pm_ie hf c100
  by_cases c114 : x1 = 184
  · have hf := pm_it hf c114
    obtain ⟨v115, e116, hf⟩ := pm_lt hf
    obtain ⟨v117, e118, hf⟩ := pm_bd hf
    cases hf
    exact K0
  have hf := pm_ie hf c114
  by_cases c119 : x1 = 185
  · have hf := pm_it hf c119
    obtain ⟨v120, e121, hf⟩ := pm_lt hf
    by_cases c122 : 0 ≤ x3
    · have hf := pm_it hf c122
      by_cases c123 : 0 ≤ x3
      · have hf := pm_it hf c123
        obtain ⟨v124, e125, hf⟩ := pm_bd hf
        cases hf
        exact K0
      · have hf := pm_ie hf c123
        obtain ⟨v126, e127, hf⟩ := pm_bd hf
        cases hf
        exact K0
    · have hf := pm_ie hf c122
      by_cases c128 : 0 ≤ x3
      · have hf := pm_it hf c128
        obtain ⟨v129, e130, hf⟩ := pm_bd hf
        cases hf
        exact K0
      · have hf := pm_ie hf c128
        obtain ⟨v131, e132, hf⟩ := pm_bd hf
        cases hf
        exact K0
  have hf := pm_ie hf c119
  by_cases c133 : x1 = 186
  · have hf := pm_it hf c133
    obtain ⟨v134, e135, hf⟩ := pm_lt hf
    obtain ⟨v136, e137, hf⟩ := pm_bd hf
    cases hf
    exact K0
  have hf := pm_ie hf c133
  by_cases c138 : x1 = 187
  · have hf := pm_it hf c138
    obtain ⟨v139, e140, hf⟩ := pm_lt hf
    obtain ⟨k141, hf⟩ := pm_if hf
    obtain ⟨v142, e143, hf⟩ := pm_bd hf
    have K144 := pm_S3.trans (kpX16_moved e143) K0
    cases hf
    exact K144
  have hf := pm_ie hf c138
  by_cases c145 : x1 = 188
  · have hf := pm_it hf c145
    cases hf
    exact K0
  have hf := pm_ie hf c145
  by_cases c146 : x1 = 189
  · have hf := pm_it hf c146
    cases hf
    exact K0
  have hf := pm_ie hf c146
  by_cases c147 : x1 = 190
  · have hf := pm_it hf c147
    cases hf
    exact K0
  have hf := pm_ie hf c147
  by_cases c148 : x1 = 191
  · have hf := pm_it hf c148
    cases hf
    exact K0
  have hf := pm_ie hf c148
  by_cases c149 : x1 = 192
  · have hf := pm_it hf c149
    by_cases c150 : x1 = 192
    · have hf := pm_it hf c150
      cases hf
      exact K0
    · have hf := pm_ie hf c150
      cases hf
      exact K0
  have hf := pm_ie hf c149
  by_cases c151 : x1 = 193
  · have hf := pm_it hf c151
    by_cases c152 : x1 = 193
    · have hf := pm_it hf c152
      cases hf
      exact K0
    · have hf := pm_ie hf c152
      cases hf
      exact K0
  have hf := pm_ie hf c151
  by_cases c153 : x1 = 194
  · have hf := pm_it hf c153
    by_cases c154 : x1 = 192
    · have hf := pm_it hf c154
      cases hf
      exact K0
    · have hf := pm_ie hf c154
      cases hf
      exact K0
  have hf := pm_ie hf c153
  by_cases c155 : x1 = 195
  · have hf := pm_it hf c155
    by_cases c156 : x1 = 193
    · have hf := pm_it hf c156
      cases hf
      exact K0
    · have hf := pm_ie hf c156
      cases hf
      exact K0
  have hf := pm_ie hf c155
  by_cases c157 : x1 = 196
  · have hf := pm_it hf c157
    cases hf
    exact K0
  have hf := pm_ie hf c157
  cases hf
  exact K0
set_option maxHeartbeats 4000000 in
set_option maxRecDepth 100000 in
theorem kpX16_turned_b68 {h : pm_H} {x0 : Nat} {x1 : Int32} {x2 : Int32} {x3 : Int64} {r : (Int64 × pm_H)} (hf : fX16_turned_b68 h x0 x1 x2 x3 = some r) : pm_S3 r.2 h := by
  unfold fX16_turned_b68 at hf
  have K0 := pm_S3.rf h
  by_cases c25 : 172 ≤ x1
  · have hf := pm_it hf c25
    by_cases c26 : (x1 - x1 / 2 * 2) = 0
    · have hf := pm_it hf c26
      obtain ⟨k27, hf⟩ := pm_if hf
      obtain ⟨v28, e29, hf⟩ := pm_bd hf
      have K30 := pm_S3.trans (kpX16_towards e29) K0
      cases hf
      exact K30
    · have hf := pm_ie hf c26
      obtain ⟨k31, hf⟩ := pm_if hf
      obtain ⟨v32, e33, hf⟩ := pm_bd hf
      have K34 := pm_S3.trans (kpX16_towards e33) K0
      cases hf
      exact K34
  · have hf := pm_ie hf c25
    by_cases c35 : (x1 - x1 / 2 * 2) = 0
    · have hf := pm_it hf c35
      obtain ⟨k36, hf⟩ := pm_if hf
      obtain ⟨v37, e38, hf⟩ := pm_bd hf
      have K39 := pm_S3.trans (kpX16_towards e38) K0
      cases hf
      exact K39
    · have hf := pm_ie hf c35
      obtain ⟨k40, hf⟩ := pm_if hf
      obtain ⟨v41, e42, hf⟩ := pm_bd hf
      have K43 := pm_S3.trans (kpX16_towards e42) K0
      cases hf
      exact K43
set_option maxHeartbeats 4000000 in
set_option maxRecDepth 100000 in
theorem kpX16_turned_b54 {h : pm_H} {x0 : Nat} {x1 : Int32} {x2 : Int32} {x3 : Int64} {r : (Int64 × pm_H)} (hf : fX16_turned_b54 h x0 x1 x2 x3 = some r) : pm_S3 r.2 h := by
  unfold fX16_turned_b54 at hf
  have K0 := pm_S3.rf h
  by_cases c23 : x1 < 174
  · have hf := pm_it hf c23
    exact pm_S3.trans (kpX16_turned_b101 hf) K0
  · have hf := pm_ie hf c23
    by_cases c24 : 178 ≤ x1
    · have hf := pm_it hf c24
      exact pm_S3.trans (kpX16_turned_b101 hf) K0
    · have hf := pm_ie hf c24
      exact pm_S3.trans (kpX16_turned_b68 hf) K0
set_option maxHeartbeats 4000000 in
set_option maxRecDepth 100000 in
theorem kpX16_turned {h : pm_H} {a0 : Nat} {p1 : Int32} {p2 : Int32} {p3 : Int64} {r : (Int64 × pm_H)} (hf : fX16_turned h a0 p1 p2 p3 = some r) : pm_S3 r.2 h := by
  unfold fX16_turned at hf
  have K0 := pm_S3.rf h
  by_cases c1 : p1 < 200
  · have hf := pm_it hf c1
    by_cases c2 : p1 < 168
    · have hf := pm_it hf c2
      exact pm_S3.trans (kpX16_turned_b54 hf) K0
    · have hf := pm_ie hf c2
      by_cases c3 : p1 < 172
      · have hf := pm_it hf c3
        exact pm_S3.trans (kpX16_turned_b68 hf) K0
      · have hf := pm_ie hf c3
        exact pm_S3.trans (kpX16_turned_b54 hf) K0
  · have hf := pm_ie hf c1
    by_cases c4 : 204 ≤ p1
    · have hf := pm_it hf c4
      by_cases c5 : (p1 - p1 / 2 * 2) = 0
      · have hf := pm_it hf c5
        obtain ⟨k6, hf⟩ := pm_if hf
        obtain ⟨v7, e8, hf⟩ := pm_bd hf
        have K9 := pm_S3.trans (kpX16_towards e8) K0
        cases hf
        exact K9
      · have hf := pm_ie hf c5
        obtain ⟨k10, hf⟩ := pm_if hf
        obtain ⟨v11, e12, hf⟩ := pm_bd hf
        have K13 := pm_S3.trans (kpX16_towards e12) K0
        cases hf
        exact K13
    · have hf := pm_ie hf c4
      by_cases c14 : (p1 - p1 / 2 * 2) = 0
      · have hf := pm_it hf c14
        obtain ⟨k15, hf⟩ := pm_if hf
        obtain ⟨v16, e17, hf⟩ := pm_bd hf
        have K18 := pm_S3.trans (kpX16_towards e17) K0
        cases hf
        exact K18
      · have hf := pm_ie hf c14
        obtain ⟨k19, hf⟩ := pm_if hf
        obtain ⟨v20, e21, hf⟩ := pm_bd hf
        have K22 := pm_S3.trans (kpX16_towards e21) K0
        cases hf
        exact K22
set_option maxHeartbeats 4000000 in
set_option maxRecDepth 100000 in
theorem klX16_turns {r : pm_H} : ∀ n : Nat, (∀ (x0 : Nat) (x8 : Int64) (x10 : Int64) (x12 : Int64) (h : pm_H), pm_iter sX16_turns n (x0, x8, x10, x12, h) = some r → pm_S3 r h) := by
  intro n
  induction n with
  | zero => exact fun _ _ _ _ _ hf => (by cases hf)
  | succ n ih =>
    refine fun x0 x8 x10 x12 h hf => ?_
    obtain ⟨y, hf, hi⟩ := pm_iter_s hf
    have hf : tX16_turns_222 x0 x8 x10 x12 h = some y := hf
    unfold tX16_turns_222 at hf
    have K0 := pm_S3.rf h
    by_cases c150 : x8 ≤ x12
    · have hf := pm_it hf c150
      obtain ⟨k151, hf⟩ := pm_if hf
      obtain ⟨v152, e153, hf⟩ := pm_bd hf
      have K154 := pm_S3.trans (kpX16_branches e153) K0
      cases hf
      cases hi
      exact K154
    · have hf := pm_ie hf c150
      obtain ⟨k155, hf⟩ := pm_if hf
      obtain ⟨v156, e157, hf⟩ := pm_bd hf
      have K158 := pm_S3.trans (kpX16_word e157) K0
      obtain ⟨y159, e160, hf⟩ := pm_lt hf
      cases hf
      exact pm_S3.trans (ih x0 x8 v156.1 y159 v156.2 hi) K158
set_option maxHeartbeats 4000000 in
set_option maxRecDepth 100000 in
theorem kpX16_turns {h : pm_H} {a0 : Nat} {p1 : Int32} {p2 : Int32} {r : pm_H} (hf : fX16_turns h a0 p1 p2 = some r) : pm_S3 r h := by
  unfold fX16_turns at hf
  have K0 := pm_S3.rf h
  by_cases c1 : p1 = 0
  · have hf := pm_it hf c1
    obtain ⟨k2, hf⟩ := pm_if hf
    obtain ⟨v3, e4, hf⟩ := pm_bd hf
    have K5 := pm_S3.trans (kpX16_endsBy e4) K0
    cases hf
    exact K5
  have hf := pm_ie hf c1
  by_cases c6 : p1 = 1
  · have hf := pm_it hf c6
    cases hf
    exact K0
  have hf := pm_ie hf c6
  by_cases c7 : p1 = 2
  · have hf := pm_it hf c7
    cases hf
    exact K0
  have hf := pm_ie hf c7
  by_cases c8 : p1 = 3
  · have hf := pm_it hf c8
    cases hf
    exact K0
  have hf := pm_ie hf c8
  by_cases c9 : p1 = 4
  · have hf := pm_it hf c9
    obtain ⟨k10, hf⟩ := pm_if hf
    obtain ⟨v11, e12, hf⟩ := pm_bd hf
    have K13 := pm_S3.trans (kpX16_opensIf e12) K0
    cases hf
    exact K13
  have hf := pm_ie hf c9
  by_cases c14 : p1 = 5
  · have hf := pm_it hf c14
    cases hf
    exact K0
  have hf := pm_ie hf c14
  by_cases c15 : p1 = 6
  · have hf := pm_it hf c15
    cases hf
    exact K0
  have hf := pm_ie hf c15
  by_cases c16 : p1 = 7
  · have hf := pm_it hf c16
    cases hf
    exact K0
  have hf := pm_ie hf c16
  by_cases c17 : p1 = 8
  · have hf := pm_it hf c17
    cases hf
    exact K0
  have hf := pm_ie hf c17
  by_cases c18 : p1 = 9
  · have hf := pm_it hf c18
    cases hf
    exact K0
  have hf := pm_ie hf c18
  by_cases c19 : p1 = 10
  · have hf := pm_it hf c19
    cases hf
    exact K0
  have hf := pm_ie hf c19
  by_cases c20 : p1 = 11
  · have hf := pm_it hf c20
    cases hf
    exact K0
  have hf := pm_ie hf c20
  by_cases c21 : p1 = 12
  · have hf := pm_it hf c21
    obtain ⟨k22, hf⟩ := pm_if hf
    obtain ⟨v23, e24, hf⟩ := pm_bd hf
    have K25 := pm_S3.trans (kpX16_word e24) K0
    obtain ⟨k26, hf⟩ := pm_if hf
    obtain ⟨v27, e28, hf⟩ := pm_bd hf
    have K29 := pm_S3.trans (kpX16_branches e28) K25
    cases hf
    exact K29
  have hf := pm_ie hf c21
  by_cases c30 : p1 = 13
  · have hf := pm_it hf c30
    obtain ⟨k31, hf⟩ := pm_if hf
    obtain ⟨v32, e33, hf⟩ := pm_bd hf
    have K34 := pm_S3.trans (kpX16_word e33) K0
    obtain ⟨k35, hf⟩ := pm_if hf
    obtain ⟨v36, e37, hf⟩ := pm_bd hf
    have K38 := pm_S3.trans (kpX16_pop e37) K34
    by_cases c39 : v36.1 = 0
    · have hf := pm_it hf c39
      cases hf
      exact K38
    · have hf := pm_ie hf c39
      obtain ⟨k40, hf⟩ := pm_if hf
      obtain ⟨v41, e42, hf⟩ := pm_bd hf
      have K43 := pm_S3.trans (kpX16_branches e42) K38
      cases hf
      exact K43
  have hf := pm_ie hf c30
  by_cases c44 : p1 = 14
  · have hf := pm_it hf c44
    obtain ⟨k45, hf⟩ := pm_if hf
    obtain ⟨v46, e47, hf⟩ := pm_bd hf
    have K48 := pm_S3.trans (kpX16_word e47) K0
    obtain ⟨k49, hf⟩ := pm_if hf
    obtain ⟨v50, e51, hf⟩ := pm_bd hf
    have K52 := pm_S3.trans (kpX16_pop e51) K48
    by_cases c53 : v46.1 ≤ v50.1
    · have hf := pm_it hf c53
      obtain ⟨k54, hf⟩ := pm_if hf
      obtain ⟨v55, e56, hf⟩ := pm_bd hf
      have K57 := pm_S3.trans (kpX16_word e56) K52
      obtain ⟨n, hn⟩ := pm_lim_iter hf
      exact pm_S3.trans ((klX16_turns n) a0 v46.1 v55.1 0 v55.2 hn) K57
    · have hf := pm_ie hf c53
      obtain ⟨k58, hf⟩ := pm_if hf
      obtain ⟨v59, e60, hf⟩ := pm_bd hf
      have K61 := pm_S3.trans (kpX16_word e60) K52
      obtain ⟨n, hn⟩ := pm_lim_iter hf
      exact pm_S3.trans ((klX16_turns n) a0 v50.1 v59.1 0 v59.2 hn) K61
  have hf := pm_ie hf c44
  by_cases c62 : p1 = 15
  · have hf := pm_it hf c62
    obtain ⟨k63, hf⟩ := pm_if hf
    obtain ⟨v64, e65, hf⟩ := pm_bd hf
    obtain ⟨y66, e67, hf⟩ := pm_lt hf
    obtain ⟨k68, hf⟩ := pm_if hf
    obtain ⟨u69, hf⟩ := pm_if hf
    obtain ⟨v70, e71, hf⟩ := pm_bd hf
    have K72 := pm_S3.trans (kpX16_branches e71) K0
    cases hf
    exact K72
  have hf := pm_ie hf c62
  by_cases c73 : p1 = 16
  · have hf := pm_it hf c73
    obtain ⟨k74, hf⟩ := pm_if hf
    obtain ⟨v75, e76, hf⟩ := pm_bd hf
    obtain ⟨v77, e78, hf⟩ := pm_bd hf
    have K79 := pm_S3.trans (kpX16_word e78) K0
    obtain ⟨y80, e81, hf⟩ := pm_lt hf
    obtain ⟨k82, hf⟩ := pm_if hf
    obtain ⟨u83, hf⟩ := pm_if hf
    obtain ⟨k84, hf⟩ := pm_if hf
    obtain ⟨v85, e86, hf⟩ := pm_bd hf
    have K87 := pm_S3.trans (kpX16_invokes e86) K79
    cases hf
    exact K87
  have hf := pm_ie hf c73
  by_cases c88 : p1 = 17
  · have hf := pm_it hf c88
    obtain ⟨k89, hf⟩ := pm_if hf
    obtain ⟨v90, e91, hf⟩ := pm_bd hf
    have K92 := pm_S3.trans (kpX16_invokesEntry e91) K0
    cases hf
    exact K92
  have hf := pm_ie hf c88
  by_cases c93 : p1 = 18
  · have hf := pm_it hf c93
    cases hf
    exact K0
  have hf := pm_ie hf c93
  by_cases c94 : p1 = 19
  · have hf := pm_it hf c94
    cases hf
    exact K0
  have hf := pm_ie hf c94
  by_cases c95 : p1 = 20
  · have hf := pm_it hf c95
    cases hf
    exact K0
  have hf := pm_ie hf c95
  by_cases c96 : p1 = 21
  · have hf := pm_it hf c96
    cases hf
    exact K0
  have hf := pm_ie hf c96
  by_cases c97 : p1 = 22
  · have hf := pm_it hf c97
    cases hf
    exact K0
  have hf := pm_ie hf c97
  by_cases c98 : p1 = 23
  · have hf := pm_it hf c98
    cases hf
    exact K0
  have hf := pm_ie hf c98
  by_cases c99 : p1 = 24
  · have hf := pm_it hf c99
    cases hf
    exact K0
  have hf := pm_ie hf c99
  by_cases c100 : p1 = 25
  · have hf := pm_it hf c100
    cases hf
    exact K0
  have hf := pm_ie hf c100
  by_cases c101 : p1 = 26
  · have hf := pm_it hf c101
    obtain ⟨k102, hf⟩ := pm_if hf
    obtain ⟨v103, e104, hf⟩ := pm_bd hf
    have K105 := pm_S3.trans (kpX16_pop e104) K0
    cases hf
    exact K105
  have hf := pm_ie hf c101
  by_cases c106 : p1 = 27
  · have hf := pm_it hf c106
    obtain ⟨k107, hf⟩ := pm_if hf
    obtain ⟨v108, e109, hf⟩ := pm_bd hf
    have K110 := pm_S3.trans (kpX16_pop e109) K0
    obtain ⟨k111, hf⟩ := pm_if hf
    obtain ⟨v112, e113, hf⟩ := pm_bd hf
    have K114 := pm_S3.trans (kpX16_pop e113) K110
    obtain ⟨k115, hf⟩ := pm_if hf
    obtain ⟨v116, e117, hf⟩ := pm_bd hf
    have K118 := pm_S3.trans (kpX16_pop e117) K114
    by_cases c119 : v108.1 = 0
    · have hf := pm_it hf c119
      obtain ⟨k120, hf⟩ := pm_if hf
      obtain ⟨v121, e122, hf⟩ := pm_bd hf
      have K123 := pm_S3.trans (kpX16_push e122) K118
      cases hf
      exact K123
    · have hf := pm_ie hf c119
      obtain ⟨k124, hf⟩ := pm_if hf
      obtain ⟨v125, e126, hf⟩ := pm_bd hf
      have K127 := pm_S3.trans (kpX16_push e126) K118
      cases hf
      exact K127
  have hf := pm_ie hf c106
  by_cases c128 : p1 = 28
  · have hf := pm_it hf c128
    obtain ⟨k129, hf⟩ := pm_if hf
    obtain ⟨v130, e131, hf⟩ := pm_bd hf
    have K132 := pm_S3.trans (kpX16_pop e131) K0
    obtain ⟨k133, hf⟩ := pm_if hf
    obtain ⟨v134, e135, hf⟩ := pm_bd hf
    have K136 := pm_S3.trans (kpX16_pop e135) K132
    obtain ⟨k137, hf⟩ := pm_if hf
    obtain ⟨v138, e139, hf⟩ := pm_bd hf
    have K140 := pm_S3.trans (kpX16_pop e139) K136
    by_cases c141 : v130.1 = 0
    · have hf := pm_it hf c141
      obtain ⟨k142, hf⟩ := pm_if hf
      obtain ⟨v143, e144, hf⟩ := pm_bd hf
      have K145 := pm_S3.trans (kpX16_push e144) K140
      cases hf
      exact K145
    · have hf := pm_ie hf c141
      obtain ⟨k146, hf⟩ := pm_if hf
      obtain ⟨v147, e148, hf⟩ := pm_bd hf
      have K149 := pm_S3.trans (kpX16_push e148) K140
      cases hf
      exact K149
  have hf := pm_ie hf c128
  cases hf
  exact K0
set_option maxHeartbeats 4000000 in
set_option maxRecDepth 100000 in
theorem kpX1_choice_b100 {h : pm_H} {x0 : Nat} {x2 : Int32} {x3 : Int32} {r : pm_H} (hf : fX1_choice_b100 h x0 x2 x3 = some r) : pm_S3 r h := by
  unfold fX1_choice_b100 at hf
  have K0 := pm_S3.rf h
  by_cases c53 : x3 = 0
  · have hf := pm_it hf c53
    obtain ⟨k54, hf⟩ := pm_if hf
    obtain ⟨v55, e56, hf⟩ := pm_bd hf
    have K57 := pm_S3.trans (kpX1_put e56) K0
    obtain ⟨k58, hf⟩ := pm_if hf
    obtain ⟨v59, e60, hf⟩ := pm_bd hf
    have K61 := pm_S3.trans (kpX1_emitPlain e60) K57
    cases hf
    exact K61
  · have hf := pm_ie hf c53
    obtain ⟨k62, hf⟩ := pm_if hf
    obtain ⟨v63, e64, hf⟩ := pm_bd hf
    have K65 := pm_S3.trans (kpX1_put e64) K0
    obtain ⟨k66, hf⟩ := pm_if hf
    obtain ⟨v67, e68, hf⟩ := pm_bd hf
    have K69 := pm_S3.trans (kpX1_emitPlain e68) K65
    cases hf
    exact K69
set_option maxHeartbeats 4000000 in
set_option maxRecDepth 100000 in
theorem kpX1_choice {h : pm_H} {a0 : Nat} {p1 : Int32} {r : pm_H} (hf : fX1_choice h a0 p1 = some r) : pm_S3 r h := by
  unfold fX1_choice at hf
  have K0 := pm_S3.rf h
  by_cases c1 : p1 = 26
  · have hf := pm_it hf c1
    obtain ⟨k2, hf⟩ := pm_if hf
    obtain ⟨v3, e4, hf⟩ := pm_bd hf
    have K5 := pm_S3.trans (kpX1_take e4) K0
    obtain ⟨k6, hf⟩ := pm_if hf
    obtain ⟨v7, e8, hf⟩ := pm_bd hf
    have K9 := pm_S3.trans (kpX1_emitPlain e8) K5
    cases hf
    exact K9
  · have hf := pm_ie hf c1
    by_cases c10 : p1 = 28
    · have hf := pm_it hf c10
      obtain ⟨k11, hf⟩ := pm_if hf
      obtain ⟨v12, e13, hf⟩ := pm_bd hf
      obtain ⟨k14, hf⟩ := pm_if hf
      obtain ⟨y15, e16, hf⟩ := pm_lt hf
      obtain ⟨v17, e18, hf⟩ := pm_bd hf
      have K19 := pm_S3.trans (kpX1_plain e18) K0
      cases hf
      exact K19
    · have hf := pm_ie hf c10
      obtain ⟨k20, hf⟩ := pm_if hf
      obtain ⟨v21, e22, hf⟩ := pm_bd hf
      have K23 := pm_S3.trans (kpX1_take e22) K0
      obtain ⟨k24, hf⟩ := pm_if hf
      obtain ⟨v25, e26, hf⟩ := pm_bd hf
      have K27 := pm_S3.trans (kpX1_take e26) K23
      obtain ⟨k28, hf⟩ := pm_if hf
      obtain ⟨v29, e30, hf⟩ := pm_bd hf
      have K31 := pm_S3.trans (kpX1_take e30) K27
      obtain ⟨v32, e33, hf⟩ := pm_lt hf
      by_cases c34 : v32 = 0
      · have hf := pm_it hf c34
        obtain ⟨k35, hf⟩ := pm_if hf
        obtain ⟨v36, e37, hf⟩ := pm_bd hf
        have K38 := pm_S3.trans (kpX1_fail e37) K31
        exact pm_S3.trans (kpX1_choice_b100 hf) K38
      · have hf := pm_ie hf c34
        obtain ⟨v39, e40, hf⟩ := pm_lt hf
        by_cases c41 : v39 = 0
        · have hf := pm_it hf c41
          obtain ⟨k42, hf⟩ := pm_if hf
          obtain ⟨v43, e44, hf⟩ := pm_bd hf
          have K45 := pm_S3.trans (kpX1_fail e44) K31
          exact pm_S3.trans (kpX1_choice_b100 hf) K45
        · have hf := pm_ie hf c41
          by_cases c46 : v29.1 = 0
          · have hf := pm_it hf c46
            exact pm_S3.trans (kpX1_choice_b100 hf) K31
          · have hf := pm_ie hf c46
            by_cases c47 : v25.1 = 0
            · have hf := pm_it hf c47
              exact pm_S3.trans (kpX1_choice_b100 hf) K31
            · have hf := pm_ie hf c47
              by_cases c48 : v29.1 = v25.1
              · have hf := pm_it hf c48
                exact pm_S3.trans (kpX1_choice_b100 hf) K31
              · have hf := pm_ie hf c48
                obtain ⟨k49, hf⟩ := pm_if hf
                obtain ⟨v50, e51, hf⟩ := pm_bd hf
                have K52 := pm_S3.trans (kpX1_fail e51) K31
                exact pm_S3.trans (kpX1_choice_b100 hf) K52
set_option maxHeartbeats 4000000 in
set_option maxRecDepth 100000 in
theorem kpX1_constantIn {h : pm_H} {a0 : Nat} {p1 : Int32} {p2 : Int64} {r : pm_H} (hf : fX1_constantIn h a0 p1 p2 = some r) : pm_S3 r h := by
  unfold fX1_constantIn at hf
  have K0 := pm_S3.rf h
  obtain ⟨k1, hf⟩ := pm_if hf
  obtain ⟨v2, e3, hf⟩ := pm_bd hf
  have K4 := pm_S3.trans (kpX1_put e3) K0
  obtain ⟨k5, hf⟩ := pm_if hf
  obtain ⟨v6, e7, hf⟩ := pm_bd hf
  have K8 := pm_S3.trans (kpX1_emit e7) K4
  cases hf
  exact K8
set_option maxHeartbeats 4000000 in
set_option maxRecDepth 100000 in
theorem kpX1_reference_b60 {h : pm_H} {x0 : Nat} {r : pm_H} (hf : fX1_reference_b60 h x0 = some r) : pm_S3 r h := by
  unfold fX1_reference_b60 at hf
  have K0 := pm_S3.rf h
  obtain ⟨k50, hf⟩ := pm_if hf
  obtain ⟨v51, e52, hf⟩ := pm_bd hf
  have K53 := pm_S3.trans (kpX1_put e52) K0
  obtain ⟨k54, hf⟩ := pm_if hf
  obtain ⟨v55, e56, hf⟩ := pm_bd hf
  have K57 := pm_S3.trans (kpX1_emitPlain e56) K53
  cases hf
  exact K57
set_option maxHeartbeats 4000000 in
set_option maxRecDepth 100000 in
theorem kpX1_reference {h : pm_H} {a0 : Nat} {p1 : Int32} {r : pm_H} (hf : fX1_reference h a0 p1 = some r) : pm_S3 r h := by
  unfold fX1_reference at hf
  have K0 := pm_S3.rf h
  by_cases c1 : p1 = 208
  · have hf := pm_it hf c1
    obtain ⟨k2, hf⟩ := pm_if hf
    obtain ⟨v3, e4, hf⟩ := pm_bd hf
    obtain ⟨k5, hf⟩ := pm_if hf
    obtain ⟨v6, e7, hf⟩ := pm_bd hf
    have K8 := pm_S3.trans (kpX1_constantIn e7) K0
    cases hf
    exact K8
  · have hf := pm_ie hf c1
    by_cases c9 : p1 = 209
    · have hf := pm_it hf c9
      obtain ⟨k10, hf⟩ := pm_if hf
      obtain ⟨v11, e12, hf⟩ := pm_bd hf
      have K13 := pm_S3.trans (kpX1_take e12) K0
      by_cases c14 : v11.1 = 0
      · have hf := pm_it hf c14
        exact pm_S3.trans (kpX1_reference_b60 hf) K13
      · have hf := pm_ie hf c14
        by_cases c15 : v11.1 = 112
        · have hf := pm_it hf c15
          exact pm_S3.trans (kpX1_reference_b60 hf) K13
        · have hf := pm_ie hf c15
          by_cases c16 : v11.1 = 111
          · have hf := pm_it hf c16
            exact pm_S3.trans (kpX1_reference_b60 hf) K13
          · have hf := pm_ie hf c16
            obtain ⟨k17, hf⟩ := pm_if hf
            obtain ⟨v18, e19, hf⟩ := pm_bd hf
            have K20 := pm_S3.trans (kpX1_fail e19) K13
            exact pm_S3.trans (kpX1_reference_b60 hf) K20
    · have hf := pm_ie hf c9
      obtain ⟨k21, hf⟩ := pm_if hf
      obtain ⟨v22, e23, hf⟩ := pm_bd hf
      obtain ⟨k24, hf⟩ := pm_if hf
      obtain ⟨v25, e26, hf⟩ := pm_lt hf
      obtain ⟨v27, e28, hf⟩ := pm_bd hf
      obtain ⟨k29, hf⟩ := pm_if hf
      by_cases c30 : (Int32.ofNat (pm_ln h v27)) ≤ v25
      · have hf := pm_it hf c30
        obtain ⟨v31, e32, hf⟩ := pm_bd hf
        have K33 := pm_S3.trans (kpX1_fail e32) K0
        obtain ⟨k34, hf⟩ := pm_if hf
        obtain ⟨v35, e36, hf⟩ := pm_bd hf
        have K37 := pm_S3.trans (kpX1_plain e36) K33
        cases hf
        exact K37
      · have hf := pm_ie hf c30
        obtain ⟨u38, hf⟩ := pm_if hf
        by_cases c39 : (pm_I h v27 v25.toNatClampNeg) = 0
        · have hf := pm_it hf c39
          obtain ⟨v40, e41, hf⟩ := pm_bd hf
          have K42 := pm_S3.trans (kpX1_fail e41) K0
          obtain ⟨k43, hf⟩ := pm_if hf
          obtain ⟨v44, e45, hf⟩ := pm_bd hf
          have K46 := pm_S3.trans (kpX1_plain e45) K42
          cases hf
          exact K46
        · have hf := pm_ie hf c39
          obtain ⟨v47, e48, hf⟩ := pm_bd hf
          have K49 := pm_S3.trans (kpX1_plain e48) K0
          cases hf
          exact K49
set_option maxHeartbeats 4000000 in
set_option maxRecDepth 100000 in
theorem klX16_answer {r : (Int32 × pm_H)} : ∀ n : Nat, (∀ (x0 : Nat) (x1 : Int32) (x2 : Int32) (x3 : Int32) (h : pm_H), pm_iter sX16_answer n (x0, x1, x2, x3, h) = some r → pm_S3 r.2 h) := by
  intro n
  induction n with
  | zero => exact fun _ _ _ _ _ hf => (by cases hf)
  | succ n ih =>
    refine fun x0 x1 x2 x3 h hf => ?_
    obtain ⟨y, hf, hi⟩ := pm_iter_s hf
    have hf : tX16_answer_64 x0 x1 x2 x3 h = some y := hf
    unfold tX16_answer_64 at hf
    have K0 := pm_S3.rf h
    by_cases c12 : x2 ≤ x3
    · have hf := pm_it hf c12
      obtain ⟨k13, hf⟩ := pm_if hf
      obtain ⟨v14, e15, hf⟩ := pm_bd hf
      have K16 := pm_S3.trans (kpX16_goesOn e15) K0
      cases hf
      cases hi
      exact K16
    · have hf := pm_ie hf c12
      obtain ⟨k17, hf⟩ := pm_if hf
      obtain ⟨v18, e19, hf⟩ := pm_bd hf
      obtain ⟨k20, hf⟩ := pm_if hf
      obtain ⟨v21, e22, hf⟩ := pm_bd hf
      obtain ⟨v23, e24, hf⟩ := pm_bd hf
      obtain ⟨k25, hf⟩ := pm_if hf
      obtain ⟨u26, hf⟩ := pm_if hf
      obtain ⟨y27, e28, hf⟩ := pm_lt hf
      obtain ⟨k29, hf⟩ := pm_if hf
      obtain ⟨u30, hf⟩ := pm_if hf
      obtain ⟨v31, e32, hf⟩ := pm_bd hf
      obtain ⟨k33, hf⟩ := pm_if hf
      obtain ⟨u34, hf⟩ := pm_if hf
      obtain ⟨v35, e36, hf⟩ := pm_lt hf
      obtain ⟨v37, e38, hf⟩ := pm_bd hf
      obtain ⟨k39, hf⟩ := pm_if hf
      obtain ⟨u40, hf⟩ := pm_if hf
      by_cases c41 : (pm_I (pm_setL h v37 x3.toNatClampNeg v35) x0 85) ≤ 0
      · have hf := pm_it hf c41
        obtain ⟨y42, e43, hf⟩ := pm_lt hf
        cases hf
        exact pm_S3.trans (ih x0 x1 x2 y42 (pm_setL h v37 x3.toNatClampNeg v35) hi) K0
      · have hf := pm_ie hf c41
        obtain ⟨v44, e45, hf⟩ := pm_bd hf
        have K46 := pm_S3.trans (kpX16_push e45) K0
        obtain ⟨y47, e48, hf⟩ := pm_lt hf
        cases hf
        exact pm_S3.trans (ih x0 x1 x2 y47 v44 hi) K46
set_option maxHeartbeats 4000000 in
set_option maxRecDepth 100000 in
theorem kpX16_answer {h : pm_H} {a0 : Nat} {r : (Int32 × pm_H)} (hf : fX16_answer h a0 = some r) : pm_S3 r.2 h := by
  unfold fX16_answer at hf
  have K0 := pm_S3.rf h
  obtain ⟨k1, hf⟩ := pm_if hf
  by_cases c2 : (pm_I h a0 76) = 5
  · have hf := pm_it hf c2
    obtain ⟨y3, e4, hf⟩ := pm_lt hf
    obtain ⟨v5, e6, hf⟩ := pm_bd hf
    by_cases c7 : (pm_I h a0 81) = v5
    · have hf := pm_it hf c7
      obtain ⟨v8, e9, hf⟩ := pm_bd hf
      by_cases c10 : v8 = 0
      · have hf := pm_it hf c10
        cases hf
        exact K0
      · have hf := pm_ie hf c10
        by_cases c11 : (pm_I (pm_setI h a0 81 0) a0 85) = 0
        · have hf := pm_it hf c11
          obtain ⟨n, hn⟩ := pm_lim_iter hf
          exact pm_S3.trans ((klX16_answer n) a0 y3 v5 0 (pm_setI (pm_setI h a0 81 0) a0 76 2) hn) K0
        · have hf := pm_ie hf c11
          obtain ⟨n, hn⟩ := pm_lim_iter hf
          exact pm_S3.trans ((klX16_answer n) a0 y3 v5 0 (pm_setI (pm_setI h a0 81 0) a0 76 1) hn) K0
    · have hf := pm_ie hf c7
      cases hf
      exact K0
  · have hf := pm_ie hf c2
    cases hf
    exact K0
set_option maxHeartbeats 4000000 in
set_option maxRecDepth 100000 in
theorem kpX16_calls {h : pm_H} {a0 : Nat} {p1 : Int32} {r : pm_H} (hf : fX16_calls h a0 p1 = some r) : pm_S3 r h := by
  unfold fX16_calls at hf
  have K0 := pm_S3.rf h
  obtain ⟨k1, hf⟩ := pm_if hf
  obtain ⟨v2, e3, hf⟩ := pm_bd hf
  have K4 := pm_S3.trans (kpX16_enters e3) K0
  obtain ⟨k5, hf⟩ := pm_if hf
  obtain ⟨v6, e7, hf⟩ := pm_bd hf
  have K8 := pm_S3.trans (kpX16_goesOn e7) K4
  cases hf
  exact K8
set_option maxHeartbeats 4000000 in
set_option maxRecDepth 100000 in
theorem klX16_declares {r : pm_H} : ∀ n : Nat, (∀ (x0 : Nat) (x1 : Int32) (h : pm_H), pm_iter sX16_declares n (.inl (x0, x1, h)) = some r → pm_S3 r h) ∧ (∀ (x0 : Nat) (x1 : Int32) (h : pm_H), pm_iter sX16_declares n (.inr (.inl (x0, x1, h))) = some r → pm_S3 r h) ∧ (∀ (x0 : Nat) (x1 : Int32) (h : pm_H), pm_iter sX16_declares n (.inr (.inr (.inl (x0, x1, h)))) = some r → pm_S3 r h) ∧ (∀ (x0 : Nat) (x1 : Int32) (h : pm_H), pm_iter sX16_declares n (.inr (.inr (.inr (.inl (x0, x1, h))))) = some r → pm_S3 r h) ∧ (∀ (x0 : Nat) (x1 : Int32) (x2 : Int32) (h : pm_H), pm_iter sX16_declares n (.inr (.inr (.inr (.inr (x0, x1, x2, h))))) = some r → pm_S3 r h) := by
  intro n
  induction n with
  | zero => exact ⟨fun _ _ _ hf => (by cases hf), fun _ _ _ hf => (by cases hf), fun _ _ _ hf => (by cases hf), fun _ _ _ hf => (by cases hf), fun _ _ _ _ hf => (by cases hf)⟩
  | succ n ih =>
    refine ⟨fun x0 x1 h hf => ?_, ?_⟩
    · obtain ⟨y, hf, hi⟩ := pm_iter_s hf
      have hf : tX16_declares_2 x0 x1 h = some y := hf
      unfold tX16_declares_2 at hf
      have K0 := pm_S3.rf h
      by_cases c1 : 128 ≤ x1
      · have hf := pm_it hf c1
        obtain ⟨k2, hf⟩ := pm_if hf
        cases hf
        exact pm_S3.trans (ih.2.1 x0 0 (pm_setI h x0 21 0) hi) K0
      · have hf := pm_ie hf c1
        obtain ⟨k3, hf⟩ := pm_if hf
        obtain ⟨v4, e5, hf⟩ := pm_bd hf
        obtain ⟨k6, hf⟩ := pm_if hf
        obtain ⟨u7, hf⟩ := pm_if hf
        obtain ⟨y8, e9, hf⟩ := pm_lt hf
        cases hf
        exact pm_S3.trans (ih.1 x0 y8 (pm_setI h v4 x1.toNatClampNeg (vp_nar .boolean 0)) hi) K0
    refine ⟨fun x0 x1 h hf => ?_, ?_⟩
    · obtain ⟨y, hf, hi⟩ := pm_iter_s hf
      have hf : tX16_declares_29 x0 x1 h = some y := hf
      unfold tX16_declares_29 at hf
      have K0 := pm_S3.rf h
      obtain ⟨k10, hf⟩ := pm_if hf
      obtain ⟨v11, e12, hf⟩ := pm_bd hf
      obtain ⟨k13, hf⟩ := pm_if hf
      by_cases c14 : (pm_I h v11 24) ≤ x1
      · have hf := pm_it hf c14
        cases hf
        exact pm_S3.trans (ih.2.2.1 x0 0 h hi) K0
      · have hf := pm_ie hf c14
        obtain ⟨v15, e16, hf⟩ := pm_bd hf
        obtain ⟨k17, hf⟩ := pm_if hf
        obtain ⟨u18, hf⟩ := pm_if hf
        obtain ⟨v19, e20, hf⟩ := pm_bd hf
        have K21 := pm_S3.trans (kpX16_declaresIn e20) K0
        obtain ⟨y22, e23, hf⟩ := pm_lt hf
        cases hf
        exact pm_S3.trans (ih.2.1 x0 y22 v19 hi) K21
    refine ⟨fun x0 x1 h hf => ?_, ?_⟩
    · obtain ⟨y, hf, hi⟩ := pm_iter_s hf
      have hf : tX16_declares_61 x0 x1 h = some y := hf
      unfold tX16_declares_61 at hf
      have K0 := pm_S3.rf h
      obtain ⟨k24, hf⟩ := pm_if hf
      obtain ⟨v25, e26, hf⟩ := pm_bd hf
      obtain ⟨k27, hf⟩ := pm_if hf
      by_cases c28 : (pm_I h v25 34) ≤ x1
      · have hf := pm_it hf c28
        cases hf
        exact pm_S3.trans (ih.2.2.2.1 x0 0 h hi) K0
      · have hf := pm_ie hf c28
        obtain ⟨v29, e30, hf⟩ := pm_bd hf
        obtain ⟨k31, hf⟩ := pm_if hf
        obtain ⟨u32, hf⟩ := pm_if hf
        by_cases c33 : (pm_I h v29 x1.toNatClampNeg) = 0
        · have hf := pm_it hf c33
          obtain ⟨v34, e35, hf⟩ := pm_bd hf
          obtain ⟨k36, hf⟩ := pm_if hf
          obtain ⟨u37, hf⟩ := pm_if hf
          obtain ⟨v38, e39, hf⟩ := pm_bd hf
          have K40 := pm_S3.trans (kpX16_declaresIn e39) K0
          obtain ⟨k41, hf⟩ := pm_if hf
          obtain ⟨v42, e43, hf⟩ := pm_bd hf
          obtain ⟨k44, hf⟩ := pm_if hf
          obtain ⟨v45, e46, hf⟩ := pm_bd hf
          obtain ⟨k47, hf⟩ := pm_if hf
          obtain ⟨u48, hf⟩ := pm_if hf
          obtain ⟨y49, e50, hf⟩ := pm_lt hf
          cases hf
          exact pm_S3.trans (ih.2.2.2.2 x0 x1 0 (pm_setI v38 x0 19 y49) hi) K40
        · have hf := pm_ie hf c33
          obtain ⟨v51, e52, hf⟩ := pm_bd hf
          obtain ⟨k53, hf⟩ := pm_if hf
          obtain ⟨u54, hf⟩ := pm_if hf
          obtain ⟨y55, e56, hf⟩ := pm_lt hf
          cases hf
          exact pm_S3.trans (ih.2.2.2.2 x0 x1 0 (pm_setI h x0 19 y55) hi) K0
    refine ⟨fun x0 x1 h hf => ?_, ?_⟩
    · obtain ⟨y, hf, hi⟩ := pm_iter_s hf
      have hf : tX16_declares_170 x0 x1 h = some y := hf
      unfold tX16_declares_170 at hf
      have K0 := pm_S3.rf h
      obtain ⟨k57, hf⟩ := pm_if hf
      obtain ⟨v58, e59, hf⟩ := pm_bd hf
      obtain ⟨k60, hf⟩ := pm_if hf
      by_cases c61 : (pm_I h v58 28) ≤ x1
      · have hf := pm_it hf c61
        cases hf
        cases hi
        exact K0
      · have hf := pm_ie hf c61
        obtain ⟨v62, e63, hf⟩ := pm_bd hf
        obtain ⟨k64, hf⟩ := pm_if hf
        obtain ⟨u65, hf⟩ := pm_if hf
        by_cases c66 : (pm_I h v62 x1.toNatClampNeg) = 0
        · have hf := pm_it hf c66
          obtain ⟨v67, e68, hf⟩ := pm_bd hf
          obtain ⟨k69, hf⟩ := pm_if hf
          obtain ⟨u70, hf⟩ := pm_if hf
          obtain ⟨v71, e72, hf⟩ := pm_bd hf
          have K73 := pm_S3.trans (kpX16_declare e72) K0
          obtain ⟨y74, e75, hf⟩ := pm_lt hf
          cases hf
          exact pm_S3.trans (ih.2.2.2.1 x0 y74 v71 hi) K73
        · have hf := pm_ie hf c66
          obtain ⟨y76, e77, hf⟩ := pm_lt hf
          cases hf
          exact pm_S3.trans (ih.2.2.2.1 x0 y76 h hi) K0
    refine fun x0 x1 x2 h hf => ?_
    obtain ⟨y, hf, hi⟩ := pm_iter_s hf
    have hf : tX16_declares_112 x0 x1 x2 h = some y := hf
    unfold tX16_declares_112 at hf
    have K0 := pm_S3.rf h
    obtain ⟨k78, hf⟩ := pm_if hf
    obtain ⟨v79, e80, hf⟩ := pm_bd hf
    obtain ⟨k81, hf⟩ := pm_if hf
    obtain ⟨v82, e83, hf⟩ := pm_bd hf
    obtain ⟨k84, hf⟩ := pm_if hf
    obtain ⟨u85, hf⟩ := pm_if hf
    by_cases c86 : (pm_I h v82 x1.toNatClampNeg) ≤ x2
    · have hf := pm_it hf c86
      obtain ⟨y87, e88, hf⟩ := pm_lt hf
      cases hf
      exact pm_S3.trans (ih.2.2.1 x0 y87 h hi) K0
    · have hf := pm_ie hf c86
      obtain ⟨v89, e90, hf⟩ := pm_bd hf
      obtain ⟨k91, hf⟩ := pm_if hf
      obtain ⟨u92, hf⟩ := pm_if hf
      by_cases c93 : (pm_I h v89 x1.toNatClampNeg) = 0
      · have hf := pm_it hf c93
        obtain ⟨v94, e95, hf⟩ := pm_bd hf
        have K96 := pm_S3.trans (kpX16_word e95) K0
        obtain ⟨k97, hf⟩ := pm_if hf
        obtain ⟨v98, e99, hf⟩ := pm_bd hf
        have K100 := pm_S3.trans (kpX16_declare e99) K96
        obtain ⟨y101, e102, hf⟩ := pm_lt hf
        cases hf
        exact pm_S3.trans (ih.2.2.2.2 x0 x1 y101 v98 hi) K100
      · have hf := pm_ie hf c93
        obtain ⟨v103, e104, hf⟩ := pm_bd hf
        have K105 := pm_S3.trans (kpX16_declaresIn e104) K0
        obtain ⟨y106, e107, hf⟩ := pm_lt hf
        cases hf
        exact pm_S3.trans (ih.2.2.2.2 x0 x1 y106 v103 hi) K105
set_option maxHeartbeats 4000000 in
set_option maxRecDepth 100000 in
theorem kpX16_declares {h : pm_H} {a0 : Nat} {r : pm_H} (hf : fX16_declares h a0 = some r) : pm_S3 r h := by
  unfold fX16_declares at hf
  have K0 := pm_S3.rf h
  obtain ⟨n, hn⟩ := pm_lim_iter hf
  exact pm_S3.trans ((klX16_declares n).1 a0 0 h hn) K0
set_option maxHeartbeats 4000000 in
set_option maxRecDepth 100000 in
theorem kpX16_real {h : pm_H} {a0 : Nat} {p1 : Int32} {p2 : Int32} {p3 : Int64} {p4 : Int64} {r : (Int64 × pm_H)} (hf : fX16_real h a0 p1 p2 p3 p4 = some r) : pm_S3 r.2 h := by
  unfold fX16_real at hf
  have K0 := pm_S3.rf h
  by_cases c1 : p1 = 0
  · have hf := pm_it hf c1
    obtain ⟨v2, e3, hf⟩ := pm_lt hf
    cases hf
    exact K0
  have hf := pm_ie hf c1
  by_cases c4 : p1 = 1
  · have hf := pm_it hf c4
    obtain ⟨v5, e6, hf⟩ := pm_lt hf
    cases hf
    exact K0
  have hf := pm_ie hf c4
  by_cases c7 : p1 = 2
  · have hf := pm_it hf c7
    obtain ⟨k8, hf⟩ := pm_if hf
    obtain ⟨v9, e10, hf⟩ := pm_bd hf
    have K11 := pm_S3.trans (kpX16_wholeOf e10) K0
    cases hf
    exact K11
  have hf := pm_ie hf c7
  by_cases c12 : p1 = 3
  · have hf := pm_it hf c12
    obtain ⟨k13, hf⟩ := pm_if hf
    obtain ⟨v14, e15, hf⟩ := pm_bd hf
    have K16 := pm_S3.trans (kpX16_wholeOf e15) K0
    cases hf
    exact K16
  have hf := pm_ie hf c12
  by_cases c17 : p1 = 4
  · have hf := pm_it hf c17
    obtain ⟨k18, hf⟩ := pm_if hf
    obtain ⟨v19, e20, hf⟩ := pm_bd hf
    have K21 := pm_S3.trans (kpX16_wholeOf e20) K0
    cases hf
    exact K21
  have hf := pm_ie hf c17
  by_cases c22 : p1 = 5
  · have hf := pm_it hf c22
    obtain ⟨k23, hf⟩ := pm_if hf
    obtain ⟨v24, e25, hf⟩ := pm_bd hf
    have K26 := pm_S3.trans (kpX16_wholeOf e25) K0
    cases hf
    exact K26
  have hf := pm_ie hf c22
  by_cases c27 : p1 = 6
  · have hf := pm_it hf c27
    obtain ⟨k28, hf⟩ := pm_if hf
    obtain ⟨v29, e30, hf⟩ := pm_bd hf
    have K31 := pm_S3.trans (kpX16_root e30) K0
    cases hf
    exact K31
  have hf := pm_ie hf c27
  by_cases c32 : p1 = 7
  · have hf := pm_it hf c32
    by_cases c33 : p1 = 8
    · have hf := pm_it hf c33
      obtain ⟨k34, hf⟩ := pm_if hf
      obtain ⟨v35, e36, hf⟩ := pm_bd hf
      have K37 := pm_S3.trans (kpX16_sum e36) K0
      cases hf
      exact K37
    · have hf := pm_ie hf c33
      obtain ⟨k38, hf⟩ := pm_if hf
      obtain ⟨v39, e40, hf⟩ := pm_bd hf
      have K41 := pm_S3.trans (kpX16_sum e40) K0
      cases hf
      exact K41
  have hf := pm_ie hf c32
  by_cases c42 : p1 = 8
  · have hf := pm_it hf c42
    by_cases c43 : p1 = 8
    · have hf := pm_it hf c43
      obtain ⟨k44, hf⟩ := pm_if hf
      obtain ⟨v45, e46, hf⟩ := pm_bd hf
      have K47 := pm_S3.trans (kpX16_sum e46) K0
      cases hf
      exact K47
    · have hf := pm_ie hf c43
      obtain ⟨k48, hf⟩ := pm_if hf
      obtain ⟨v49, e50, hf⟩ := pm_bd hf
      have K51 := pm_S3.trans (kpX16_sum e50) K0
      cases hf
      exact K51
  have hf := pm_ie hf c42
  by_cases c52 : p1 = 9
  · have hf := pm_it hf c52
    obtain ⟨k53, hf⟩ := pm_if hf
    obtain ⟨v54, e55, hf⟩ := pm_bd hf
    have K56 := pm_S3.trans (kpX16_product e55) K0
    cases hf
    exact K56
  have hf := pm_ie hf c52
  by_cases c57 : p1 = 10
  · have hf := pm_it hf c57
    obtain ⟨k58, hf⟩ := pm_if hf
    obtain ⟨v59, e60, hf⟩ := pm_bd hf
    have K61 := pm_S3.trans (kpX16_quotient e60) K0
    cases hf
    exact K61
  have hf := pm_ie hf c57
  by_cases c62 : p1 = 11
  · have hf := pm_it hf c62
    by_cases c63 : p1 = 11
    · have hf := pm_it hf c63
      obtain ⟨k64, hf⟩ := pm_if hf
      obtain ⟨v65, e66, hf⟩ := pm_bd hf
      have K67 := pm_S3.trans (kpX16_extreme e66) K0
      cases hf
      exact K67
    · have hf := pm_ie hf c63
      obtain ⟨k68, hf⟩ := pm_if hf
      obtain ⟨v69, e70, hf⟩ := pm_bd hf
      have K71 := pm_S3.trans (kpX16_extreme e70) K0
      cases hf
      exact K71
  have hf := pm_ie hf c62
  by_cases c72 : p1 = 12
  · have hf := pm_it hf c72
    by_cases c73 : p1 = 11
    · have hf := pm_it hf c73
      obtain ⟨k74, hf⟩ := pm_if hf
      obtain ⟨v75, e76, hf⟩ := pm_bd hf
      have K77 := pm_S3.trans (kpX16_extreme e76) K0
      cases hf
      exact K77
    · have hf := pm_ie hf c73
      obtain ⟨k78, hf⟩ := pm_if hf
      obtain ⟨v79, e80, hf⟩ := pm_bd hf
      have K81 := pm_S3.trans (kpX16_extreme e80) K0
      cases hf
      exact K81
  have hf := pm_ie hf c72
  obtain ⟨v82, e83, hf⟩ := pm_lt hf
  obtain ⟨v84, e85, hf⟩ := pm_lt hf
  cases hf
  exact K0
