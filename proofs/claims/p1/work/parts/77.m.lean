set_option maxHeartbeats 4000000 in
set_option maxRecDepth 100000 in
theorem kpX16_sets {h : pm_H} {a0 : Nat} {p1 : Int32} {p2 : Int64} {p3 : Int32} {r : pm_H} (hf : fX16_sets h a0 p1 p2 p3 = some r) : pm_S3 r h := by
  unfold fX16_sets at hf
  have K0 := pm_S3.rf h
  obtain ⟨k1, hf⟩ := pm_if hf
  obtain ⟨v2, e3, hf⟩ := pm_bd hf
  obtain ⟨v4, e5, hf⟩ := pm_bd hf
  obtain ⟨k6, hf⟩ := pm_if hf
  obtain ⟨u7, hf⟩ := pm_if hf
  cases hf
  exact K0
set_option maxHeartbeats 4000000 in
set_option maxRecDepth 100000 in
theorem klX16_signedWord {r : (Int64 × pm_H)} : ∀ n : Nat, (∀ (x0 : Nat) (x1 : Int64) (x3 : Int32) (x4 : Int32) (h : pm_H), pm_iter sX16_signedWord n (x0, x1, x3, x4, h) = some r → pm_S3 r.2 h) := by
  intro n
  induction n with
  | zero => exact fun _ _ _ _ _ hf => (by cases hf)
  | succ n ih =>
    refine fun x0 x1 x3 x4 h hf => ?_
    obtain ⟨y, hf, hi⟩ := pm_iter_s hf
    have hf : tX16_signedWord_9 x0 x1 x3 x4 h = some y := hf
    unfold tX16_signedWord_9 at hf
    have K0 := pm_S3.rf h
    by_cases c1 : x4 ≤ 127
    · have hf := pm_it hf c1
      by_cases c2 : 64 ≤ x3
      · have hf := pm_it hf c2
        cases hf
        cases hi
        exact K0
      · have hf := pm_ie hf c2
        by_cases c3 : (x4 &&& 64) = 0
        · have hf := pm_it hf c3
          cases hf
          cases hi
          exact K0
        · have hf := pm_ie hf c3
          cases hf
          cases hi
          exact K0
    · have hf := pm_ie hf c1
      obtain ⟨k4, hf⟩ := pm_if hf
      obtain ⟨v5, e6, hf⟩ := pm_bd hf
      obtain ⟨k7, hf⟩ := pm_if hf
      obtain ⟨v8, e9, hf⟩ := pm_bd hf
      obtain ⟨y10, e11, hf⟩ := pm_lt hf
      obtain ⟨y12, e13, hf⟩ := pm_lt hf
      obtain ⟨y14, e15, hf⟩ := pm_lt hf
      cases hf
      exact pm_S3.trans (ih x0 y10 y12 v8 (pm_setI h x0 19 y14) hi) K0
set_option maxHeartbeats 4000000 in
set_option maxRecDepth 100000 in
theorem kpX16_signedWord {h : pm_H} {a0 : Nat} {r : (Int64 × pm_H)} (hf : fX16_signedWord h a0 = some r) : pm_S3 r.2 h := by
  unfold fX16_signedWord at hf
  have K0 := pm_S3.rf h
  obtain ⟨n, hn⟩ := pm_lim_iter hf
  exact pm_S3.trans ((klX16_signedWord n) a0 0 0 128 h hn) K0
set_option maxHeartbeats 4000000 in
set_option maxRecDepth 100000 in
theorem klX16_tablesStep {r : pm_H} : ∀ n : Nat, (∀ (x0 : Nat) (x1 : Int32) (x2 : Int32) (x3 : Int32) (s0 : Int32) (s1 : Int32) (s2 : Nat) (h : pm_H), pm_iter sX16_tablesStep n (.inl (x0, x1, x2, x3, s0, s1, s2, h)) = some r → pm_S3 r h) ∧ (∀ (x0 : Nat) (x1 : Int32) (x4 : Int32) (x5 : Int64) (x7 : Int64) (x9 : Int64) (x11 : Int32) (x12 : Int32) (x13 : Int64) (h : pm_H), pm_iter sX16_tablesStep n (.inr (.inl (x0, x1, x4, x5, x7, x9, x11, x12, x13, h))) = some r → pm_S3 r h) ∧ (∀ (x0 : Nat) (x4 : Int32) (x5 : Int64) (x7 : Int64) (s0 : Int64) (h : pm_H), pm_iter sX16_tablesStep n (.inr (.inr (.inl (x0, x4, x5, x7, s0, h)))) = some r → pm_S3 r h) ∧ (∀ (x0 : Nat) (x1 : Int32) (x4 : Int32) (x5 : Int64) (x7 : Int64) (x9 : Int64) (x11 : Int32) (x12 : Int32) (x13 : Int64) (h : pm_H), pm_iter sX16_tablesStep n (.inr (.inr (.inr (.inl (x0, x1, x4, x5, x7, x9, x11, x12, x13, h))))) = some r → pm_S3 r h) ∧ (∀ (x0 : Nat) (x1 : Int32) (x4 : Int32) (x5 : Int64) (x7 : Int64) (x9 : Int64) (x11 : Int32) (x12 : Int32) (x13 : Int64) (s0 : Int64) (h : pm_H), pm_iter sX16_tablesStep n (.inr (.inr (.inr (.inr (.inl (x0, x1, x4, x5, x7, x9, x11, x12, x13, s0, h)))))) = some r → pm_S3 r h) ∧ (∀ (x0 : Nat) (x4 : Int32) (x5 : Int64) (x7 : Int64) (h : pm_H), pm_iter sX16_tablesStep n (.inr (.inr (.inr (.inr (.inr (x0, x4, x5, x7, h)))))) = some r → pm_S3 r h) := by
  intro n
  induction n with
  | zero => exact ⟨fun _ _ _ _ _ _ _ _ hf => (by cases hf), fun _ _ _ _ _ _ _ _ _ _ hf => (by cases hf), fun _ _ _ _ _ _ hf => (by cases hf), fun _ _ _ _ _ _ _ _ _ _ hf => (by cases hf), fun _ _ _ _ _ _ _ _ _ _ _ hf => (by cases hf), fun _ _ _ _ _ hf => (by cases hf)⟩
  | succ n ih =>
    refine ⟨fun x0 x1 x2 x3 s0 s1 s2 h hf => ?_, ?_⟩
    · obtain ⟨y, hf, hi⟩ := pm_iter_s hf
      have hf : tX16_tablesStep_23 x0 x1 x2 x3 s0 s1 s2 h = some y := hf
      unfold tX16_tablesStep_23 at hf
      have K0 := pm_S3.rf h
      obtain ⟨y5, e6, hf⟩ := pm_lt hf
      obtain ⟨k7, hf⟩ := pm_if hf
      obtain ⟨u8, hf⟩ := pm_if hf
      obtain ⟨y9, e10, hf⟩ := pm_lt hf
      by_cases c11 : x1 = 16
      · have hf := pm_it hf c11
        obtain ⟨k12, hf⟩ := pm_if hf
        obtain ⟨v13, e14, hf⟩ := pm_bd hf
        obtain ⟨k15, hf⟩ := pm_if hf
        obtain ⟨u16, hf⟩ := pm_if hf
        obtain ⟨v17, e18, hf⟩ := pm_bd hf
        have K19 := pm_S3.trans (kpX16_push e18) K0
        cases hf
        cases hi
        exact K19
      · have hf := pm_ie hf c11
        obtain ⟨k20, hf⟩ := pm_if hf
        obtain ⟨v21, e22, hf⟩ := pm_bd hf
        have K23 := pm_S3.trans (kpX16_pop e22) K0
        obtain ⟨k24, hf⟩ := pm_if hf
        obtain ⟨v25, e26, hf⟩ := pm_bd hf
        have K27 := pm_S3.trans (kpX16_pop e26) K23
        by_cases c28 : x1 = 15
        · have hf := pm_it hf c28
          obtain ⟨k29, hf⟩ := pm_if hf
          obtain ⟨v30, e31, hf⟩ := pm_bd hf
          obtain ⟨k32, hf⟩ := pm_if hf
          obtain ⟨u33, hf⟩ := pm_if hf
          by_cases c34 : 0 ≤ (pm_L v25.2 v30 y9.toNatClampNeg)
          · have hf := pm_it hf c34
            obtain ⟨u35, hf⟩ := pm_if hf
            cases hf
            exact pm_S3.trans (ih.2.2.1 x0 y9 v21.1 v25.1 (pm_L v25.2 v30 y9.toNatClampNeg) v25.2 hi) K27
          · have hf := pm_ie hf c34
            cases hf
            exact pm_S3.trans (ih.2.2.1 x0 y9 v21.1 v25.1 4294967295 v25.2 hi) K27
        · have hf := pm_ie hf c28
          obtain ⟨k36, hf⟩ := pm_if hf
          obtain ⟨v37, e38, hf⟩ := pm_bd hf
          have K39 := pm_S3.trans (kpX16_pop e38) K27
          by_cases c40 : x1 = 12
          · have hf := pm_it hf c40
            obtain ⟨k41, hf⟩ := pm_if hf
            obtain ⟨v42, e43, hf⟩ := pm_bd hf
            have K44 := pm_S3.trans (kpX16_copiesElement e43) K39
            by_cases c45 : v42.1 = 0
            · have hf := pm_it hf c45
              obtain ⟨k46, hf⟩ := pm_if hf
              obtain ⟨v47, e48, hf⟩ := pm_bd hf
              have K49 := pm_S3.trans (kpX16_endsBy e48) K44
              cases hf
              cases hi
              exact K49
            · have hf := pm_ie hf c45
              obtain ⟨k50, hf⟩ := pm_if hf
              obtain ⟨v51, e52, hf⟩ := pm_bd hf
              have K53 := pm_S3.trans (kpX16_endsBy e52) K44
              cases hf
              cases hi
              exact K53
          · have hf := pm_ie hf c40
            obtain ⟨k54, hf⟩ := pm_if hf
            obtain ⟨v55, e56, hf⟩ := pm_bd hf
            obtain ⟨y57, e58, hf⟩ := pm_lt hf
            obtain ⟨k59, hf⟩ := pm_if hf
            obtain ⟨u60, hf⟩ := pm_if hf
            obtain ⟨y61, e62, hf⟩ := pm_lt hf
            obtain ⟨v63, e64, hf⟩ := pm_bd hf
            obtain ⟨k65, hf⟩ := pm_if hf
            obtain ⟨u66, hf⟩ := pm_if hf
            by_cases c67 : ((pm_I v37.2 v63 y9.toNatClampNeg).toInt64) < (v37.1 + v21.1)
            · have hf := pm_it hf c67
              obtain ⟨v68, e69, hf⟩ := pm_bd hf
              have K70 := pm_S3.trans (kpX16_endsBy e69) K39
              cases hf
              exact pm_S3.trans (ih.2.1 x0 x1 y9 v21.1 v25.1 v37.1 y61 1 0 v68 hi) K70
            · have hf := pm_ie hf c67
              by_cases c71 : x1 = 14
              · have hf := pm_it hf c71
                obtain ⟨u72, hf⟩ := pm_if hf
                by_cases c73 : (v25.1 + v21.1) ≤ ((pm_I v37.2 v63 y61.toNatClampNeg).toInt64)
                · have hf := pm_it hf c73
                  obtain ⟨v74, e75, hf⟩ := pm_bd hf
                  have K76 := pm_S3.trans (kpX16_endsBy e75) K39
                  cases hf
                  exact pm_S3.trans (ih.2.1 x0 x1 y9 v21.1 v25.1 v37.1 y61 0 0 v74 hi) K76
                · have hf := pm_ie hf c73
                  obtain ⟨v77, e78, hf⟩ := pm_bd hf
                  have K79 := pm_S3.trans (kpX16_endsBy e78) K39
                  cases hf
                  exact pm_S3.trans (ih.2.1 x0 x1 y9 v21.1 v25.1 v37.1 y61 1 0 v77 hi) K79
              · have hf := pm_ie hf c71
                obtain ⟨v80, e81, hf⟩ := pm_bd hf
                have K82 := pm_S3.trans (kpX16_endsBy e81) K39
                cases hf
                exact pm_S3.trans (ih.2.1 x0 x1 y9 v21.1 v25.1 v37.1 y61 0 0 v80 hi) K82
    refine ⟨fun x0 x1 x4 x5 x7 x9 x11 x12 x13 h hf => ?_, ?_⟩
    · obtain ⟨y, hf, hi⟩ := pm_iter_s hf
      have hf : tX16_tablesStep_286 x0 x1 x4 x5 x7 x9 x11 x12 x13 h = some y := hf
      unfold tX16_tablesStep_286 at hf
      have K0 := pm_S3.rf h
      by_cases c108 : x5 ≤ x13
      · have hf := pm_it hf c108
        cases hf
        cases hi
        exact K0
      · have hf := pm_ie hf c108
        by_cases c109 : x12 = 0
        · have hf := pm_it hf c109
          by_cases c110 : x1 = 14
          · have hf := pm_it hf c110
            by_cases c111 : x9 ≤ x7
            · have hf := pm_it hf c111
              cases hf
              exact pm_S3.trans (ih.2.2.2.1 x0 x1 x4 x5 x7 x9 x11 x12 x13 h hi) K0
            · have hf := pm_ie hf c111
              cases hf
              exact pm_S3.trans (ih.2.2.2.2.1 x0 x1 x4 x5 x7 x9 x11 x12 x13 ((x5 - 1) - x13) h hi) K0
          · have hf := pm_ie hf c110
            cases hf
            exact pm_S3.trans (ih.2.2.2.1 x0 x1 x4 x5 x7 x9 x11 x12 x13 h hi) K0
        · have hf := pm_ie hf c109
          cases hf
          cases hi
          exact K0
    refine ⟨fun x0 x4 x5 x7 s0 h hf => ?_, ?_⟩
    · obtain ⟨y, hf, hi⟩ := pm_iter_s hf
      have hf : tX16_tablesStep_89 x0 x4 x5 x7 s0 h = some y := hf
      unfold tX16_tablesStep_89 at hf
      have K0 := pm_S3.rf h
      obtain ⟨k83, hf⟩ := pm_if hf
      obtain ⟨v84, e85, hf⟩ := pm_bd hf
      obtain ⟨k86, hf⟩ := pm_if hf
      obtain ⟨u87, hf⟩ := pm_if hf
      by_cases c88 : s0 < (((pm_I h v84 x4.toNatClampNeg).toInt64) + x5)
      · have hf := pm_it hf c88
        cases hf
        exact pm_S3.trans (ih.2.2.2.2.2 x0 x4 x5 x7 h hi) K0
      · have hf := pm_ie hf c88
        by_cases c89 : ((pm_I h x0 47).toInt64) < x5
        · have hf := pm_it hf c89
          cases hf
          exact pm_S3.trans (ih.2.2.2.2.2 x0 x4 x5 x7 h hi) K0
        · have hf := pm_ie hf c89
          by_cases c90 : (1 : Int32) = (0 : Int32)
          · have hf := pm_it hf c90
            obtain ⟨v91, e92, hf⟩ := pm_bd hf
            have K93 := pm_S3.trans (kpX16_push e92) K0
            by_cases c94 : (1 : Int32) = (0 : Int32)
            · have hf := pm_it hf c94
              cases hf
              cases hi
              exact K93
            · have hf := pm_ie hf c94
              obtain ⟨k95, hf⟩ := pm_if hf
              obtain ⟨v96, e97, hf⟩ := pm_bd hf
              have K98 := pm_S3.trans (kpX16_grows e97) K93
              cases hf
              cases hi
              exact K98
          · have hf := pm_ie hf c90
            obtain ⟨u99, hf⟩ := pm_if hf
            obtain ⟨v100, e101, hf⟩ := pm_bd hf
            have K102 := pm_S3.trans (kpX16_push e101) K0
            by_cases c103 : (1 : Int32) = (0 : Int32)
            · have hf := pm_it hf c103
              cases hf
              cases hi
              exact K102
            · have hf := pm_ie hf c103
              obtain ⟨k104, hf⟩ := pm_if hf
              obtain ⟨v105, e106, hf⟩ := pm_bd hf
              have K107 := pm_S3.trans (kpX16_grows e106) K102
              cases hf
              cases hi
              exact K107
    refine ⟨fun x0 x1 x4 x5 x7 x9 x11 x12 x13 h hf => ?_, ?_⟩
    · obtain ⟨y, hf, hi⟩ := pm_iter_s hf
      have hf : tX16_tablesStep_323 x0 x1 x4 x5 x7 x9 x11 x12 x13 h = some y := hf
      unfold tX16_tablesStep_323 at hf
      have K0 := pm_S3.rf h
      cases hf
      exact pm_S3.trans (ih.2.2.2.2.1 x0 x1 x4 x5 x7 x9 x11 x12 x13 x13 h hi) K0
    refine ⟨fun x0 x1 x4 x5 x7 x9 x11 x12 x13 s0 h hf => ?_, ?_⟩
    · obtain ⟨y, hf, hi⟩ := pm_iter_s hf
      have hf : tX16_tablesStep_325 x0 x1 x4 x5 x7 x9 x11 x12 x13 s0 h = some y := hf
      unfold tX16_tablesStep_325 at hf
      have K0 := pm_S3.rf h
      obtain ⟨k135, hf⟩ := pm_if hf
      obtain ⟨v136, e137, hf⟩ := pm_bd hf
      by_cases c138 : x1 = 17
      · have hf := pm_it hf c138
        obtain ⟨k139, hf⟩ := pm_if hf
        obtain ⟨u140, hf⟩ := pm_if hf
        obtain ⟨y141, e142, hf⟩ := pm_lt hf
        cases hf
        exact pm_S3.trans (ih.2.1 x0 x1 x4 x5 x7 x9 x11 x12 y141 (pm_setI h v136 ((((1024 * x4) + x9.toInt32) + s0.toInt32).toNatClampNeg) x7.toInt32) hi) K0
      · have hf := pm_ie hf c138
        obtain ⟨y143, e144, hf⟩ := pm_lt hf
        obtain ⟨k145, hf⟩ := pm_if hf
        obtain ⟨u146, hf⟩ := pm_if hf
        obtain ⟨y147, e148, hf⟩ := pm_lt hf
        obtain ⟨u149, hf⟩ := pm_if hf
        obtain ⟨y150, e151, hf⟩ := pm_lt hf
        cases hf
        exact pm_S3.trans (ih.2.1 x0 x1 x4 x5 x7 x9 x11 x12 y150 (pm_setI h v136 ((((1024 * x4) + x9.toInt32) + s0.toInt32).toNatClampNeg) y147) hi) K0
    refine fun x0 x4 x5 x7 h hf => ?_
    obtain ⟨y, hf, hi⟩ := pm_iter_s hf
    have hf : tX16_tablesStep_123 x0 x4 x5 x7 h = some y := hf
    unfold tX16_tablesStep_123 at hf
    have K0 := pm_S3.rf h
    by_cases c112 : (0 : Int32) = (0 : Int32)
    · have hf := pm_it hf c112
      obtain ⟨k113, hf⟩ := pm_if hf
      obtain ⟨v114, e115, hf⟩ := pm_bd hf
      have K116 := pm_S3.trans (kpX16_push e115) K0
      by_cases c117 : (0 : Int32) = (0 : Int32)
      · have hf := pm_it hf c117
        cases hf
        cases hi
        exact K116
      · have hf := pm_ie hf c117
        obtain ⟨k118, hf⟩ := pm_if hf
        obtain ⟨v119, e120, hf⟩ := pm_bd hf
        have K121 := pm_S3.trans (kpX16_grows e120) K116
        cases hf
        cases hi
        exact K121
    · have hf := pm_ie hf c112
      obtain ⟨k122, hf⟩ := pm_if hf
      obtain ⟨v123, e124, hf⟩ := pm_bd hf
      obtain ⟨k125, hf⟩ := pm_if hf
      obtain ⟨u126, hf⟩ := pm_if hf
      obtain ⟨v127, e128, hf⟩ := pm_bd hf
      have K129 := pm_S3.trans (kpX16_push e128) K0
      by_cases c130 : (0 : Int32) = (0 : Int32)
      · have hf := pm_it hf c130
        cases hf
        cases hi
        exact K129
      · have hf := pm_ie hf c130
        obtain ⟨k131, hf⟩ := pm_if hf
        obtain ⟨v132, e133, hf⟩ := pm_bd hf
        have K134 := pm_S3.trans (kpX16_grows e133) K129
        cases hf
        cases hi
        exact K134
set_option maxHeartbeats 4000000 in
set_option maxRecDepth 100000 in
theorem kpX16_tablesStep {h : pm_H} {a0 : Nat} {p1 : Int32} {p2 : Int32} {p3 : Int32} {r : pm_H} (hf : fX16_tablesStep h a0 p1 p2 p3 = some r) : pm_S3 r h := by
  unfold fX16_tablesStep at hf
  have K0 := pm_S3.rf h
  obtain ⟨k1, hf⟩ := pm_if hf
  obtain ⟨v2, e3, hf⟩ := pm_bd hf
  by_cases c4 : p1 = 12
  · have hf := pm_it hf c4
    obtain ⟨n, hn⟩ := pm_lim_iter hf
    exact pm_S3.trans ((klX16_tablesStep n).1 a0 p1 p2 p3 p3 (128 * (pm_I h a0 95)) v2 h hn) K0
  · have hf := pm_ie hf c4
    obtain ⟨n, hn⟩ := pm_lim_iter hf
    exact pm_S3.trans ((klX16_tablesStep n).1 a0 p1 p2 p3 p2 (128 * (pm_I h a0 95)) v2 h hn) K0
set_option maxHeartbeats 4000000 in
set_option maxRecDepth 100000 in
theorem kpX16_tier {h : pm_H} {a0 : Nat} {p1 : Int32} {r : (Int32 × pm_H)} (hf : fX16_tier h a0 p1 = some r) : pm_S3 r.2 h := by
  unfold fX16_tier at hf
  have K0 := pm_S3.rf h
  by_cases c1 : 0 ≤ p1
  · have hf := pm_it hf c1
    obtain ⟨k2, hf⟩ := pm_if hf
    obtain ⟨y3, e4, hf⟩ := pm_lt hf
    cases hf
    exact K0
  · have hf := pm_ie hf c1
    cases hf
    exact K0
set_option maxHeartbeats 4000000 in
set_option maxRecDepth 100000 in
theorem kpX16_traps {h : pm_H} {a0 : Nat} {p1 : Int32} {r : pm_H} (hf : fX16_traps h a0 p1 = some r) : pm_S3 r h := by
  unfold fX16_traps at hf
  have K0 := pm_S3.rf h
  obtain ⟨k1, hf⟩ := pm_if hf
  cases hf
  exact K0
set_option maxHeartbeats 4000000 in
set_option maxRecDepth 100000 in
theorem klX16_word {r : (Int64 × pm_H)} : ∀ n : Nat, (∀ (x0 : Nat) (x1 : Int64) (x3 : Int32) (x4 : Int32) (h : pm_H), pm_iter sX16_word n (x0, x1, x3, x4, h) = some r → pm_S3 r.2 h) := by
  intro n
  induction n with
  | zero => exact fun _ _ _ _ _ hf => (by cases hf)
  | succ n ih =>
    refine fun x0 x1 x3 x4 h hf => ?_
    obtain ⟨y, hf, hi⟩ := pm_iter_s hf
    have hf : tX16_word_9 x0 x1 x3 x4 h = some y := hf
    unfold tX16_word_9 at hf
    have K0 := pm_S3.rf h
    by_cases c1 : x4 ≤ 127
    · have hf := pm_it hf c1
      cases hf
      cases hi
      exact K0
    · have hf := pm_ie hf c1
      obtain ⟨k2, hf⟩ := pm_if hf
      obtain ⟨v3, e4, hf⟩ := pm_bd hf
      obtain ⟨k5, hf⟩ := pm_if hf
      obtain ⟨v6, e7, hf⟩ := pm_bd hf
      obtain ⟨y8, e9, hf⟩ := pm_lt hf
      obtain ⟨y10, e11, hf⟩ := pm_lt hf
      obtain ⟨y12, e13, hf⟩ := pm_lt hf
      cases hf
      exact pm_S3.trans (ih x0 y8 y10 v6 (pm_setI h x0 19 y12) hi) K0
set_option maxHeartbeats 4000000 in
set_option maxRecDepth 100000 in
theorem kpX16_word {h : pm_H} {a0 : Nat} {r : (Int64 × pm_H)} (hf : fX16_word h a0 = some r) : pm_S3 r.2 h := by
  unfold fX16_word at hf
  have K0 := pm_S3.rf h
  obtain ⟨n, hn⟩ := pm_lim_iter hf
  exact pm_S3.trans ((klX16_word n) a0 0 0 128 h hn) K0
set_option maxHeartbeats 4000000 in
set_option maxRecDepth 100000 in
theorem kpX0_aim {h : pm_H} {a0 : Nat} {p1 : Int32} {p2 : Int32} {r : pm_H} (hf : fX0_aim h a0 p1 p2 = some r) : pm_S3 r h := by
  unfold fX0_aim at hf
  have K0 := pm_S3.rf h
  obtain ⟨k1, hf⟩ := pm_if hf
  obtain ⟨v2, e3, hf⟩ := pm_bd hf
  obtain ⟨v4, e5, hf⟩ := pm_bd hf
  have K6 := pm_S3.trans (kpX12_setItem e5) K0
  cases hf
  exact K6
set_option maxHeartbeats 4000000 in
set_option maxRecDepth 100000 in
theorem kpX1_aimCondition {h : pm_H} {a0 : Nat} {p1 : Int32} {r : pm_H} (hf : fX1_aimCondition h a0 p1 = some r) : pm_S3 r h := by
  unfold fX1_aimCondition at hf
  have K0 := pm_S3.rf h
  obtain ⟨k1, hf⟩ := pm_if hf
  obtain ⟨v2, e3, hf⟩ := pm_bd hf
  obtain ⟨v4, e5, hf⟩ := pm_bd hf
  by_cases c6 : v4 = 4
  · have hf := pm_it hf c6
    by_cases c7 : v2 < 0
    · have hf := pm_it hf c7
      cases hf
      exact K0
    · have hf := pm_ie hf c7
      obtain ⟨v8, e9, hf⟩ := pm_bd hf
      obtain ⟨k10, hf⟩ := pm_if hf
      obtain ⟨v11, e12, hf⟩ := pm_bd hf
      have K13 := pm_S3.trans (kpX0_aim e12) K0
      cases hf
      exact K13
  · have hf := pm_ie hf c6
    cases hf
    exact K0
set_option maxHeartbeats 4000000 in
set_option maxRecDepth 100000 in
theorem kpX1_failSection {h : pm_H} {a0 : Nat} {p1 : Int32} {p2 : Int32} {r : pm_H} (hf : fX1_failSection h a0 p1 p2 = some r) : pm_S3 r h := by
  unfold fX1_failSection at hf
  have K0 := pm_S3.rf h
  obtain ⟨k1, hf⟩ := pm_if hf
  obtain ⟨v2, e3, hf⟩ := pm_bd hf
  obtain ⟨k4, hf⟩ := pm_if hf
  obtain ⟨v5, e6, hf⟩ := pm_bd hf
  obtain ⟨v7, e8, hf⟩ := pm_bd hf
  obtain ⟨v9, e10, hf⟩ := pm_bd hf
  have K11 := pm_S3.trans (kpX1_failAt e10) K0
  cases hf
  exact K11
set_option maxHeartbeats 4000000 in
set_option maxRecDepth 100000 in
theorem kpX1_put {h : pm_H} {a0 : Nat} {p1 : Int32} {r : pm_H} (hf : fX1_put h a0 p1 = some r) : pm_S3 r h := by
  unfold fX1_put at hf
  have K0 := pm_S3.rf h
  obtain ⟨k1, hf⟩ := pm_if hf
  by_cases c2 : (pm_I h a0 6) < 1000
  · have hf := pm_it hf c2
    obtain ⟨v3, e4, hf⟩ := pm_bd hf
    obtain ⟨v5, e6, hf⟩ := pm_bd hf
    have K7 := pm_S3.trans (kpX12_setItem e6) K0
    obtain ⟨k8, hf⟩ := pm_if hf
    obtain ⟨y9, e10, hf⟩ := pm_lt hf
    cases hf
    exact K7
  · have hf := pm_ie hf c2
    obtain ⟨v11, e12, hf⟩ := pm_bd hf
    have K13 := pm_S3.trans (kpX1_fail e12) K0
    cases hf
    exact K13
set_option maxHeartbeats 4000000 in
set_option maxRecDepth 100000 in
theorem klX1_putTypes {r : pm_H} : ∀ n : Nat, (∀ (x0 : Nat) (x1 : Nat) (x2 : Int32) (x3 : Int32) (x4 : Int32) (h : pm_H), pm_iter sX1_putTypes n (x0, x1, x2, x3, x4, h) = some r → pm_S3 r h) := by
  intro n
  induction n with
  | zero => exact fun _ _ _ _ _ _ hf => (by cases hf)
  | succ n ih =>
    refine fun x0 x1 x2 x3 x4 h hf => ?_
    obtain ⟨y, hf, hi⟩ := pm_iter_s hf
    have hf : tX1_putTypes_3 x0 x1 x2 x3 x4 h = some y := hf
    unfold tX1_putTypes_3 at hf
    have K0 := pm_S3.rf h
    by_cases c1 : x3 ≤ x4
    · have hf := pm_it hf c1
      cases hf
      cases hi
      exact K0
    · have hf := pm_ie hf c1
      obtain ⟨v2, e3, hf⟩ := pm_bd hf
      obtain ⟨k4, hf⟩ := pm_if hf
      obtain ⟨v5, e6, hf⟩ := pm_bd hf
      have K7 := pm_S3.trans (kpX1_put e6) K0
      obtain ⟨y8, e9, hf⟩ := pm_lt hf
      cases hf
      exact pm_S3.trans (ih x0 x1 x2 x3 y8 v5 hi) K7
set_option maxHeartbeats 4000000 in
set_option maxRecDepth 100000 in
theorem kpX1_putTypes {h : pm_H} {a0 : Nat} {p1 : Nat} {p2 : Int32} {p3 : Int32} {r : pm_H} (hf : fX1_putTypes h a0 p1 p2 p3 = some r) : pm_S3 r h := by
  unfold fX1_putTypes at hf
  have K0 := pm_S3.rf h
  obtain ⟨n, hn⟩ := pm_lim_iter hf
  exact pm_S3.trans ((klX1_putTypes n) a0 p1 p2 p3 0 h hn) K0
set_option maxHeartbeats 4000000 in
set_option maxRecDepth 100000 in
theorem kpX1_setLabel {h : pm_H} {a0 : Nat} {p1 : Int32} {p2 : Int32} {p3 : Int32} {r : pm_H} (hf : fX1_setLabel h a0 p1 p2 p3 = some r) : pm_S3 r h := by
  unfold fX1_setLabel at hf
  have K0 := pm_S3.rf h
  obtain ⟨k1, hf⟩ := pm_if hf
  obtain ⟨v2, e3, hf⟩ := pm_bd hf
  obtain ⟨v4, e5, hf⟩ := pm_bd hf
  have K6 := pm_S3.trans (kpX12_setItem e5) K0
  cases hf
  exact K6
set_option maxHeartbeats 4000000 in
set_option maxRecDepth 100000 in
theorem kpX1_take {h : pm_H} {a0 : Nat} {p1 : Int32} {r : (Int32 × pm_H)} (hf : fX1_take h a0 p1 = some r) : pm_S3 r.2 h := by
  unfold fX1_take at hf
  have K0 := pm_S3.rf h
  obtain ⟨k1, hf⟩ := pm_if hf
  obtain ⟨y2, e3, hf⟩ := pm_lt hf
  obtain ⟨v4, e5, hf⟩ := pm_bd hf
  by_cases c6 : v4 < (pm_I h a0 6)
  · have hf := pm_it hf c6
    obtain ⟨y7, e8, hf⟩ := pm_lt hf
    obtain ⟨v9, e10, hf⟩ := pm_bd hf
    obtain ⟨v11, e12, hf⟩ := pm_bd hf
    by_cases c13 : v11 = 0
    · have hf := pm_it hf c13
      cases hf
      exact K0
    · have hf := pm_ie hf c13
      by_cases c14 : p1 = 0
      · have hf := pm_it hf c14
        cases hf
        exact K0
      · have hf := pm_ie hf c14
        by_cases c15 : v11 = p1
        · have hf := pm_it hf c15
          cases hf
          exact K0
        · have hf := pm_ie hf c15
          obtain ⟨v16, e17, hf⟩ := pm_bd hf
          have K18 := pm_S3.trans (kpX1_fail e17) K0
          cases hf
          exact K18
  · have hf := pm_ie hf c6
    obtain ⟨v19, e20, hf⟩ := pm_bd hf
    by_cases c21 : v19 = 0
    · have hf := pm_it hf c21
      obtain ⟨v22, e23, hf⟩ := pm_bd hf
      have K24 := pm_S3.trans (kpX1_fail e23) K0
      cases hf
      exact K24
    · have hf := pm_ie hf c21
      cases hf
      exact K0
set_option maxHeartbeats 4000000 in
set_option maxRecDepth 100000 in
theorem klX1_takeTypes {r : pm_H} : ∀ n : Nat, (∀ (x0 : Nat) (x1 : Nat) (x2 : Int32) (x4 : Int32) (h : pm_H), pm_iter sX1_takeTypes n (x0, x1, x2, x4, h) = some r → pm_S3 r h) := by
  intro n
  induction n with
  | zero => exact fun _ _ _ _ _ hf => (by cases hf)
  | succ n ih =>
    refine fun x0 x1 x2 x4 h hf => ?_
    obtain ⟨y, hf, hi⟩ := pm_iter_s hf
    have hf : tX1_takeTypes_5 x0 x1 x2 x4 h = some y := hf
    unfold tX1_takeTypes_5 at hf
    have K0 := pm_S3.rf h
    by_cases c3 : x4 < 0
    · have hf := pm_it hf c3
      cases hf
      cases hi
      exact K0
    · have hf := pm_ie hf c3
      obtain ⟨v4, e5, hf⟩ := pm_bd hf
      obtain ⟨k6, hf⟩ := pm_if hf
      obtain ⟨v7, e8, hf⟩ := pm_bd hf
      have K9 := pm_S3.trans (kpX1_take e8) K0
      obtain ⟨y10, e11, hf⟩ := pm_lt hf
      cases hf
      exact pm_S3.trans (ih x0 x1 x2 y10 v7.2 hi) K9
set_option maxHeartbeats 4000000 in
set_option maxRecDepth 100000 in
theorem kpX1_takeTypes {h : pm_H} {a0 : Nat} {p1 : Nat} {p2 : Int32} {p3 : Int32} {r : pm_H} (hf : fX1_takeTypes h a0 p1 p2 p3 = some r) : pm_S3 r h := by
  unfold fX1_takeTypes at hf
  have K0 := pm_S3.rf h
  obtain ⟨y1, e2, hf⟩ := pm_lt hf
  obtain ⟨n, hn⟩ := pm_lim_iter hf
  exact pm_S3.trans ((klX1_takeTypes n) a0 p1 p2 y1 h hn) K0
set_option maxHeartbeats 4000000 in
set_option maxRecDepth 100000 in
theorem klX2_aimBranches {r : pm_H} : ∀ n : Nat, (∀ (x0 : Nat) (x1 : Int32) (h : pm_H), pm_iter sX2_aimBranches n (x0, x1, h) = some r → pm_S3 r h) := by
  intro n
  induction n with
  | zero => exact fun _ _ _ hf => (by cases hf)
  | succ n ih =>
    refine fun x0 x1 h hf => ?_
    obtain ⟨y, hf, hi⟩ := pm_iter_s hf
    have hf : tX2_aimBranches_2 x0 x1 h = some y := hf
    unfold tX2_aimBranches_2 at hf
    have K0 := pm_S3.rf h
    obtain ⟨k1, hf⟩ := pm_if hf
    by_cases c2 : ((pm_I h x0 4) * 8) ≤ x1
    · have hf := pm_it hf c2
      cases hf
      cases hi
      exact K0
    · have hf := pm_ie hf c2
      obtain ⟨v3, e4, hf⟩ := pm_bd hf
      obtain ⟨v5, e6, hf⟩ := pm_bd hf
      obtain ⟨v7, e8, hf⟩ := pm_lt hf
      by_cases c9 : v7 = 0
      · have hf := pm_it hf c9
        obtain ⟨y10, e11, hf⟩ := pm_lt hf
        cases hf
        exact pm_S3.trans (ih x0 y10 h hi) K0
      · have hf := pm_ie hf c9
        obtain ⟨v12, e13, hf⟩ := pm_bd hf
        obtain ⟨v14, e15, hf⟩ := pm_bd hf
        obtain ⟨v16, e17, hf⟩ := pm_bd hf
        obtain ⟨v18, e19, hf⟩ := pm_bd hf
        have K20 := pm_S3.trans (kpX12_setItem e19) K0
        obtain ⟨y21, e22, hf⟩ := pm_lt hf
        cases hf
        exact pm_S3.trans (ih x0 y21 v18 hi) K20
set_option maxHeartbeats 4000000 in
set_option maxRecDepth 100000 in
theorem kpX2_aimBranches {h : pm_H} {a0 : Nat} {r : pm_H} (hf : fX2_aimBranches h a0 = some r) : pm_S3 r h := by
  unfold fX2_aimBranches at hf
  have K0 := pm_S3.rf h
  obtain ⟨n, hn⟩ := pm_lim_iter hf
  exact pm_S3.trans ((klX2_aimBranches n) a0 0 h hn) K0
set_option maxHeartbeats 4000000 in
set_option maxRecDepth 100000 in
theorem kpX2_branch {h : pm_H} {a0 : Nat} {p1 : Int32} {p2 : Int32} {p3 : Int32} {r : (Int32 × pm_H)} (hf : fX2_branch h a0 p1 p2 p3 = some r) : pm_S3 r.2 h := by
  unfold fX2_branch at hf
  have K0 := pm_S3.rf h
  obtain ⟨k1, hf⟩ := pm_if hf
  obtain ⟨v2, e3, hf⟩ := pm_bd hf
  obtain ⟨k4, hf⟩ := pm_if hf
  obtain ⟨v5, e6, hf⟩ := pm_bd hf
  obtain ⟨v7, e8, hf⟩ := pm_bd hf
  have K9 := pm_S3.trans (kpX2_emit e8) K0
  obtain ⟨k10, hf⟩ := pm_if hf
  obtain ⟨v11, e12, hf⟩ := pm_bd hf
  obtain ⟨k13, hf⟩ := pm_if hf
  obtain ⟨v14, e15, hf⟩ := pm_bd hf
  obtain ⟨v16, e17, hf⟩ := pm_bd hf
  obtain ⟨v18, e19, hf⟩ := pm_bd hf
  obtain ⟨v20, e21, hf⟩ := pm_bd hf
  have K22 := pm_S3.trans (kpX12_setItem e21) K9
  obtain ⟨k23, hf⟩ := pm_if hf
  obtain ⟨v24, e25, hf⟩ := pm_bd hf
  obtain ⟨v26, e27, hf⟩ := pm_bd hf
  have K28 := pm_S3.trans (kpX12_setItem e27) K22
  obtain ⟨k29, hf⟩ := pm_if hf
  obtain ⟨v30, e31, hf⟩ := pm_bd hf
  obtain ⟨v32, e33, hf⟩ := pm_bd hf
  obtain ⟨k34, hf⟩ := pm_if hf
  obtain ⟨v35, e36, hf⟩ := pm_bd hf
  obtain ⟨v37, e38, hf⟩ := pm_bd hf
  have K39 := pm_S3.trans (kpX12_setItem e38) K28
  obtain ⟨k40, hf⟩ := pm_if hf
  obtain ⟨v41, e42, hf⟩ := pm_bd hf
  obtain ⟨v43, e44, hf⟩ := pm_bd hf
  have K45 := pm_S3.trans (kpX12_setItem e44) K39
  cases hf
  exact K45
set_option maxHeartbeats 4000000 in
set_option maxRecDepth 100000 in
theorem kpX2_emitMove {h : pm_H} {a0 : Nat} {p1 : Int32} {p2 : Int32} {p3 : Int32} {r : pm_H} (hf : fX2_emitMove h a0 p1 p2 p3 = some r) : pm_S3 r h := by
  unfold fX2_emitMove at hf
  have K0 := pm_S3.rf h
  obtain ⟨k1, hf⟩ := pm_if hf
  obtain ⟨v2, e3, hf⟩ := pm_bd hf
  have K4 := pm_S3.trans (kpX2_emit e3) K0
  obtain ⟨k5, hf⟩ := pm_if hf
  obtain ⟨v6, e7, hf⟩ := pm_bd hf
  obtain ⟨v8, e9, hf⟩ := pm_bd hf
  have K10 := pm_S3.trans (kpX12_setItem e9) K4
  obtain ⟨k11, hf⟩ := pm_if hf
  obtain ⟨v12, e13, hf⟩ := pm_bd hf
  obtain ⟨v14, e15, hf⟩ := pm_bd hf
  have K16 := pm_S3.trans (kpX12_setItem e15) K10
  cases hf
  exact K16
set_option maxHeartbeats 4000000 in
set_option maxRecDepth 100000 in
theorem kpX2_hold {h : pm_H} {a0 : Nat} {p1 : Int32} {p2 : Int32} {r : pm_H} (hf : fX2_hold h a0 p1 p2 = some r) : pm_S3 r h := by
  unfold fX2_hold at hf
  have K0 := pm_S3.rf h
  obtain ⟨k1, hf⟩ := pm_if hf
  obtain ⟨v2, e3, hf⟩ := pm_bd hf
  obtain ⟨v4, e5, hf⟩ := pm_bd hf
  have K6 := pm_S3.trans (kpX12_setItem e5) K0
  obtain ⟨k7, hf⟩ := pm_if hf
  obtain ⟨y8, e9, hf⟩ := pm_lt hf
  cases hf
  exact K6
set_option maxHeartbeats 4000000 in
set_option maxRecDepth 100000 in
theorem kpX2_holdConstant {h : pm_H} {a0 : Nat} {p1 : Int32} {p2 : Int32} {r : pm_H} (hf : fX2_holdConstant h a0 p1 p2 = some r) : pm_S3 r h := by
  unfold fX2_holdConstant at hf
  have K0 := pm_S3.rf h
  obtain ⟨k1, hf⟩ := pm_if hf
  obtain ⟨v2, e3, hf⟩ := pm_bd hf
  obtain ⟨v4, e5, hf⟩ := pm_bd hf
  obtain ⟨k6, hf⟩ := pm_if hf
  obtain ⟨v7, e8, hf⟩ := pm_bd hf
  obtain ⟨v9, e10, hf⟩ := pm_bd hf
  obtain ⟨v11, e12, hf⟩ := pm_bd hf
  have K13 := pm_S3.trans (kpX12_setItem_ e12) K0
  obtain ⟨k14, hf⟩ := pm_if hf
  obtain ⟨y15, e16, hf⟩ := pm_lt hf
  obtain ⟨v17, e18, hf⟩ := pm_bd hf
  have K19 := pm_S3.trans (kpX2_hold e18) K13
  cases hf
  exact K19
set_option maxHeartbeats 4000000 in
set_option maxRecDepth 100000 in
theorem klX2_own {r : pm_H} : ∀ n : Nat, (∀ (x0 : Nat) (x1 : Int32) (x2 : Int32) (h : pm_H), pm_iter sX2_own n (x0, x1, x2, h) = some r → pm_S3 r h) := by
  intro n
  induction n with
  | zero => exact fun _ _ _ _ hf => (by cases hf)
  | succ n ih =>
    refine fun x0 x1 x2 h hf => ?_
    obtain ⟨y, hf, hi⟩ := pm_iter_s hf
    have hf : tX2_own_2 x0 x1 x2 h = some y := hf
    unfold tX2_own_2 at hf
    have K0 := pm_S3.rf h
    by_cases c1 : x1 ≤ x2
    · have hf := pm_it hf c1
      cases hf
      cases hi
      exact K0
    · have hf := pm_ie hf c1
      obtain ⟨k2, hf⟩ := pm_if hf
      obtain ⟨v3, e4, hf⟩ := pm_bd hf
      obtain ⟨k5, hf⟩ := pm_if hf
      by_cases c6 : (Int32.ofNat (pm_ln h v3)) ≤ x2
      · have hf := pm_it hf c6
        cases hf
        cases hi
        exact K0
      · have hf := pm_ie hf c6
        obtain ⟨u7, hf⟩ := pm_if hf
        by_cases c8 : (pm_I h v3 x2.toNatClampNeg) = ((pm_I h x0 2) + x2)
        · have hf := pm_it hf c8
          obtain ⟨y9, e10, hf⟩ := pm_lt hf
          obtain ⟨u11, hf⟩ := pm_if hf
          obtain ⟨y12, e13, hf⟩ := pm_lt hf
          cases hf
          exact pm_S3.trans (ih x0 x1 y12 (pm_setI h v3 x2.toNatClampNeg y9) hi) K0
        · have hf := pm_ie hf c8
          obtain ⟨u14, hf⟩ := pm_if hf
          obtain ⟨v15, e16, hf⟩ := pm_bd hf
          have K17 := pm_S3.trans (kpX2_emitMove e16) K0
          obtain ⟨k18, hf⟩ := pm_if hf
          obtain ⟨v19, e20, hf⟩ := pm_bd hf
          obtain ⟨y21, e22, hf⟩ := pm_lt hf
          obtain ⟨k23, hf⟩ := pm_if hf
          obtain ⟨u24, hf⟩ := pm_if hf
          obtain ⟨y25, e26, hf⟩ := pm_lt hf
          cases hf
          exact pm_S3.trans (ih x0 x1 y25 (pm_setI v15 v19 x2.toNatClampNeg y21) hi) K17
set_option maxHeartbeats 4000000 in
set_option maxRecDepth 100000 in
theorem kpX2_own {h : pm_H} {a0 : Nat} {p1 : Int32} {r : pm_H} (hf : fX2_own h a0 p1 = some r) : pm_S3 r h := by
  unfold fX2_own at hf
  have K0 := pm_S3.rf h
  obtain ⟨n, hn⟩ := pm_lim_iter hf
  exact pm_S3.trans ((klX2_own n) a0 p1 0 h hn) K0
set_option maxHeartbeats 4000000 in
set_option maxRecDepth 100000 in
theorem klX2_plain {r : pm_H} : ∀ n : Nat, (∀ (x0 : Nat) (x1 : Int32) (x2 : Int32) (x4 : Int32) (x5 : Int32) (x6 : Int32) (x7 : Int32) (x8 : Int32) (h : pm_H), pm_iter sX2_plain n (x0, x1, x2, x4, x5, x6, x7, x8, h) = some r → pm_S3 r h) := by
  intro n
  induction n with
  | zero => exact fun _ _ _ _ _ _ _ _ _ hf => (by cases hf)
  | succ n ih =>
    refine fun x0 x1 x2 x4 x5 x6 x7 x8 h hf => ?_
    obtain ⟨y, hf, hi⟩ := pm_iter_s hf
    have hf : tX2_plain_71 x0 x1 x2 x4 x5 x6 x7 x8 h = some y := hf
    unfold tX2_plain_71 at hf
    have K0 := pm_S3.rf h
    by_cases c33 : (x4 >>> ((1 : Int32) &&& 31)) ≤ x8
    · have hf := pm_it hf c33
      obtain ⟨k34, hf⟩ := pm_if hf
      obtain ⟨v35, e36, hf⟩ := pm_bd hf
      obtain ⟨v37, e38, hf⟩ := pm_bd hf
      obtain ⟨k39, hf⟩ := pm_if hf
      obtain ⟨v40, e41, hf⟩ := pm_bd hf
      obtain ⟨v42, e43, hf⟩ := pm_bd hf
      have K44 := pm_S3.trans (kpX12_setItem e43) K0
      obtain ⟨k45, hf⟩ := pm_if hf
      obtain ⟨v46, e47, hf⟩ := pm_bd hf
      obtain ⟨v48, e49, hf⟩ := pm_bd hf
      obtain ⟨k50, hf⟩ := pm_if hf
      obtain ⟨v51, e52, hf⟩ := pm_bd hf
      obtain ⟨v53, e54, hf⟩ := pm_bd hf
      have K55 := pm_S3.trans (kpX12_setItem e54) K44
      by_cases c56 : x7 = 0
      · have hf := pm_it hf c56
        by_cases c57 : x2 = 0
        · have hf := pm_it hf c57
          obtain ⟨k58, hf⟩ := pm_if hf
          cases hf
          cases hi
          exact K55
        · have hf := pm_ie hf c57
          cases hf
          cases hi
          exact K55
      · have hf := pm_ie hf c56
        obtain ⟨k59, hf⟩ := pm_if hf
        obtain ⟨v60, e61, hf⟩ := pm_bd hf
        obtain ⟨v62, e63, hf⟩ := pm_bd hf
        have K64 := pm_S3.trans (kpX12_setItem e63) K55
        by_cases c65 : x2 = 0
        · have hf := pm_it hf c65
          obtain ⟨k66, hf⟩ := pm_if hf
          cases hf
          cases hi
          exact K64
        · have hf := pm_ie hf c65
          cases hf
          cases hi
          exact K64
    · have hf := pm_ie hf c33
      obtain ⟨k67, hf⟩ := pm_if hf
      obtain ⟨v68, e69, hf⟩ := pm_bd hf
      obtain ⟨v70, e71, hf⟩ := pm_bd hf
      obtain ⟨v72, e73, hf⟩ := pm_bd hf
      have K74 := pm_S3.trans (kpX12_setItem e73) K0
      obtain ⟨y75, e76, hf⟩ := pm_lt hf
      cases hf
      exact pm_S3.trans (ih x0 x1 x2 x4 x5 x6 x7 y75 v72 hi) K74
set_option maxHeartbeats 4000000 in
set_option maxRecDepth 100000 in
theorem kpX2_plain {h : pm_H} {a0 : Nat} {p1 : Int32} {p2 : Int32} {p3 : Int32} {r : pm_H} (hf : fX2_plain h a0 p1 p2 p3 = some r) : pm_S3 r h := by
  unfold fX2_plain at hf
  have K0 := pm_S3.rf h
  obtain ⟨k1, hf⟩ := pm_if hf
  obtain ⟨v2, e3, hf⟩ := pm_bd hf
  obtain ⟨k4, hf⟩ := pm_if hf
  obtain ⟨v5, e6, hf⟩ := pm_bd hf
  obtain ⟨y7, e8, hf⟩ := pm_lt hf
  obtain ⟨v9, e10, hf⟩ := pm_bd hf
  have K11 := pm_S3.trans (kpX2_emit e10) K0
  by_cases c12 : (v5 &&& 1) = 0
  · have hf := pm_it hf c12
    obtain ⟨k13, hf⟩ := pm_if hf
    obtain ⟨v14, e15, hf⟩ := pm_bd hf
    by_cases c16 : (0 : Int32) = (0 : Int32)
    · have hf := pm_it hf c16
      obtain ⟨v17, e18, hf⟩ := pm_bd hf
      have K19 := pm_S3.trans (kpX12_setItem e18) K11
      obtain ⟨n, hn⟩ := pm_lim_iter hf
      exact pm_S3.trans ((klX2_plain n) a0 p1 p2 v5 y7 v9.1 0 0 v17 hn) K19
    · have hf := pm_ie hf c16
      obtain ⟨v20, e21, hf⟩ := pm_bd hf
      have K22 := pm_S3.trans (kpX12_setItem e21) K11
      obtain ⟨n, hn⟩ := pm_lim_iter hf
      exact pm_S3.trans ((klX2_plain n) a0 p1 p2 v5 y7 v9.1 0 0 v20 hn) K22
  · have hf := pm_ie hf c12
    obtain ⟨k23, hf⟩ := pm_if hf
    obtain ⟨v24, e25, hf⟩ := pm_bd hf
    by_cases c26 : (1 : Int32) = (0 : Int32)
    · have hf := pm_it hf c26
      obtain ⟨v27, e28, hf⟩ := pm_bd hf
      have K29 := pm_S3.trans (kpX12_setItem e28) K11
      obtain ⟨n, hn⟩ := pm_lim_iter hf
      exact pm_S3.trans ((klX2_plain n) a0 p1 p2 v5 y7 v9.1 1 0 v27 hn) K29
    · have hf := pm_ie hf c26
      obtain ⟨v30, e31, hf⟩ := pm_bd hf
      have K32 := pm_S3.trans (kpX12_setItem e31) K11
      obtain ⟨n, hn⟩ := pm_lim_iter hf
      exact pm_S3.trans ((klX2_plain n) a0 p1 p2 v5 y7 v9.1 1 0 v30 hn) K32
set_option maxHeartbeats 4000000 in
set_option maxRecDepth 100000 in
theorem klX2_setLocal {r : pm_H} : ∀ n : Nat, (∀ (x0 : Nat) (x1 : Int32) (x2 : Int32) (x3 : Int32) (x4 : Int32) (h : pm_H), pm_iter sX2_setLocal n (x0, x1, x2, x3, x4, h) = some r → pm_S3 r h) := by
  intro n
  induction n with
  | zero => exact fun _ _ _ _ _ _ hf => (by cases hf)
  | succ n ih =>
    refine fun x0 x1 x2 x3 x4 h hf => ?_
    obtain ⟨y, hf, hi⟩ := pm_iter_s hf
    have hf : tX2_setLocal_11 x0 x1 x2 x3 x4 h = some y := hf
    unfold tX2_setLocal_11 at hf
    have K0 := pm_S3.rf h
    by_cases c4 : (x2 - 1) ≤ x4
    · have hf := pm_it hf c4
      by_cases c5 : x3 = x1
      · have hf := pm_it hf c5
        obtain ⟨k6, hf⟩ := pm_if hf
        obtain ⟨y7, e8, hf⟩ := pm_lt hf
        cases hf
        cases hi
        exact K0
      · have hf := pm_ie hf c5
        obtain ⟨k9, hf⟩ := pm_if hf
        obtain ⟨v10, e11, hf⟩ := pm_bd hf
        have K12 := pm_S3.trans (kpX2_emitMove e11) K0
        cases hf
        cases hi
        exact K12
    · have hf := pm_ie hf c4
      obtain ⟨k13, hf⟩ := pm_if hf
      obtain ⟨v14, e15, hf⟩ := pm_bd hf
      obtain ⟨k16, hf⟩ := pm_if hf
      by_cases c17 : (Int32.ofNat (pm_ln h v14)) ≤ x4
      · have hf := pm_it hf c17
        by_cases c18 : x3 = x1
        · have hf := pm_it hf c18
          obtain ⟨y19, e20, hf⟩ := pm_lt hf
          cases hf
          cases hi
          exact K0
        · have hf := pm_ie hf c18
          obtain ⟨v21, e22, hf⟩ := pm_bd hf
          have K23 := pm_S3.trans (kpX2_emitMove e22) K0
          cases hf
          cases hi
          exact K23
      · have hf := pm_ie hf c17
        obtain ⟨u24, hf⟩ := pm_if hf
        by_cases c25 : (pm_I h v14 x4.toNatClampNeg) = x1
        · have hf := pm_it hf c25
          obtain ⟨v26, e27, hf⟩ := pm_bd hf
          have K28 := pm_S3.trans (kpX2_emitMove e27) K0
          obtain ⟨k29, hf⟩ := pm_if hf
          obtain ⟨v30, e31, hf⟩ := pm_bd hf
          obtain ⟨y32, e33, hf⟩ := pm_lt hf
          obtain ⟨k34, hf⟩ := pm_if hf
          obtain ⟨u35, hf⟩ := pm_if hf
          obtain ⟨y36, e37, hf⟩ := pm_lt hf
          cases hf
          exact pm_S3.trans (ih x0 x1 x2 x3 y36 (pm_setI v26 v30 x4.toNatClampNeg y32) hi) K28
        · have hf := pm_ie hf c25
          obtain ⟨y38, e39, hf⟩ := pm_lt hf
          cases hf
          exact pm_S3.trans (ih x0 x1 x2 x3 y38 h hi) K0
set_option maxHeartbeats 4000000 in
set_option maxRecDepth 100000 in
theorem kpX2_setLocal {h : pm_H} {a0 : Nat} {p1 : Int32} {p2 : Int32} {r : pm_H} (hf : fX2_setLocal h a0 p1 p2 = some r) : pm_S3 r h := by
  unfold fX2_setLocal at hf
  have K0 := pm_S3.rf h
  obtain ⟨k1, hf⟩ := pm_if hf
  obtain ⟨v2, e3, hf⟩ := pm_bd hf
  obtain ⟨n, hn⟩ := pm_lim_iter hf
  exact pm_S3.trans ((klX2_setLocal n) a0 p1 p2 v2 0 h hn) K0
set_option maxHeartbeats 4000000 in
set_option maxRecDepth 100000 in
theorem klX5_clearLocals {r : pm_H} : ∀ n : Nat, (∀ (x0 : Nat) (x1 : Nat) (x4 : Int32) (h : pm_H), pm_iter sX5_clearLocals n (.inl (x0, x1, x4, h)) = some r → pm_S3 r h) ∧ (∀ (x0 : Nat) (x1 : Nat) (x4 : Int32) (h : pm_H), pm_iter sX5_clearLocals n (.inr (.inl (x0, x1, x4, h))) = some r → pm_S3 r h) ∧ (∀ (x0 : Nat) (x1 : Nat) (x4 : Int32) (x5 : Int32) (h : pm_H), pm_iter sX5_clearLocals n (.inr (.inr (x0, x1, x4, x5, h))) = some r → pm_S3 r h) := by
  intro n
  induction n with
  | zero => exact ⟨fun _ _ _ _ hf => (by cases hf), fun _ _ _ _ hf => (by cases hf), fun _ _ _ _ _ hf => (by cases hf)⟩
  | succ n ih =>
    refine ⟨fun x0 x1 x4 h hf => ?_, ?_⟩
    · obtain ⟨y, hf, hi⟩ := pm_iter_s hf
      have hf : tX5_clearLocals_13 x0 x1 x4 h = some y := hf
      unfold tX5_clearLocals_13 at hf
      have K0 := pm_S3.rf h
      obtain ⟨k7, hf⟩ := pm_if hf
      obtain ⟨v8, e9, hf⟩ := pm_bd hf
      obtain ⟨k10, hf⟩ := pm_if hf
      by_cases c11 : (pm_I h v8 5) ≤ x4
      · have hf := pm_it hf c11
        cases hf
        exact pm_S3.trans (ih.2.1 x0 x1 0 h hi) K0
      · have hf := pm_ie hf c11
        obtain ⟨v12, e13, hf⟩ := pm_bd hf
        obtain ⟨v14, e15, hf⟩ := pm_bd hf
        have K16 := pm_S3.trans (kpX12_setItem_ e15) K0
        obtain ⟨y17, e18, hf⟩ := pm_lt hf
        cases hf
        exact pm_S3.trans (ih.1 x0 x1 y17 v14 hi) K16
    refine ⟨fun x0 x1 x4 h hf => ?_, ?_⟩
    · obtain ⟨y, hf, hi⟩ := pm_iter_s hf
      have hf : tX5_clearLocals_44 x0 x1 x4 h = some y := hf
      unfold tX5_clearLocals_44 at hf
      have K0 := pm_S3.rf h
      obtain ⟨k19, hf⟩ := pm_if hf
      obtain ⟨v20, e21, hf⟩ := pm_bd hf
      obtain ⟨k22, hf⟩ := pm_if hf
      by_cases c23 : (Int32.ofNat (pm_ln h v20)) ≤ (x4 + 1)
      · have hf := pm_it hf c23
        cases hf
        cases hi
        exact K0
      · have hf := pm_ie hf c23
        obtain ⟨u24, hf⟩ := pm_if hf
        obtain ⟨y25, e26, hf⟩ := pm_lt hf
        cases hf
        exact pm_S3.trans (ih.2.2 x0 x1 x4 y25 h hi) K0
    refine fun x0 x1 x4 x5 h hf => ?_
    obtain ⟨y, hf, hi⟩ := pm_iter_s hf
    have hf : tX5_clearLocals_65 x0 x1 x4 x5 h = some y := hf
    unfold tX5_clearLocals_65 at hf
    have K0 := pm_S3.rf h
    obtain ⟨k27, hf⟩ := pm_if hf
    obtain ⟨v28, e29, hf⟩ := pm_bd hf
    obtain ⟨y30, e31, hf⟩ := pm_lt hf
    obtain ⟨k32, hf⟩ := pm_if hf
    obtain ⟨u33, hf⟩ := pm_if hf
    by_cases c34 : (pm_I h v28 y30.toNatClampNeg) ≤ x5
    · have hf := pm_it hf c34
      obtain ⟨y35, e36, hf⟩ := pm_lt hf
      cases hf
      exact pm_S3.trans (ih.2.1 x0 x1 y35 h hi) K0
    · have hf := pm_ie hf c34
      obtain ⟨k37, hf⟩ := pm_if hf
      obtain ⟨v38, e39, hf⟩ := pm_bd hf
      obtain ⟨v40, e41, hf⟩ := pm_bd hf
      obtain ⟨k42, hf⟩ := pm_if hf
      obtain ⟨v43, e44, hf⟩ := pm_bd hf
      have K45 := pm_S3.trans (kpX12_setItem_ e44) K0
      obtain ⟨y46, e47, hf⟩ := pm_lt hf
      cases hf
      exact pm_S3.trans (ih.2.2 x0 x1 x4 y46 v43 hi) K45
set_option maxHeartbeats 4000000 in
set_option maxRecDepth 100000 in
theorem kpX5_clearLocals {h : pm_H} {a0 : Nat} {p1 : Nat} {p2 : Int32} {r : pm_H} (hf : fX5_clearLocals h a0 p1 p2 = some r) : pm_S3 r h := by
  unfold fX5_clearLocals at hf
  have K0 := pm_S3.rf h
  obtain ⟨k1, hf⟩ := pm_if hf
  obtain ⟨v2, e3, hf⟩ := pm_bd hf
  obtain ⟨k4, hf⟩ := pm_if hf
  obtain ⟨y5, e6, hf⟩ := pm_lt hf
  obtain ⟨n, hn⟩ := pm_lim_iter hf
  exact pm_S3.trans ((klX5_clearLocals n).1 a0 p1 y5 h hn) K0
set_option maxHeartbeats 4000000 in
set_option maxRecDepth 100000 in
theorem kpX5_fail {h : pm_H} {a0 : Nat} {p1 : Int32} {r : pm_H} (hf : fX5_fail h a0 p1 = some r) : pm_S3 r h := by
  unfold fX5_fail at hf
  have K0 := pm_S3.rf h
  obtain ⟨k1, hf⟩ := pm_if hf
  obtain ⟨v2, e3, hf⟩ := pm_bd hf
  have K4 := pm_S3.trans (kpX5_stop e3) K0
  cases hf
  exact K4
set_option maxHeartbeats 4000000 in
set_option maxRecDepth 100000 in
theorem kpX5_failAtMaking {h : pm_H} {a0 : Nat} {p1 : Int32} {r : pm_H} (hf : fX5_failAtMaking h a0 p1 = some r) : pm_S3 r h := by
  unfold fX5_failAtMaking at hf
  have K0 := pm_S3.rf h
  obtain ⟨k1, hf⟩ := pm_if hf
  obtain ⟨v2, e3, hf⟩ := pm_bd hf
  have K4 := pm_S3.trans (kpX5_fail e3) K0
  cases hf
  exact K4
set_option maxHeartbeats 4000000 in
set_option maxRecDepth 100000 in
theorem kpX5_pop {h : pm_H} {a0 : Nat} {r : (Int64 × pm_H)} (hf : fX5_pop h a0 = some r) : pm_S3 r.2 h := by
  unfold fX5_pop at hf
  have K0 := pm_S3.rf h
  obtain ⟨k1, hf⟩ := pm_if hf
  obtain ⟨v2, e3, hf⟩ := pm_bd hf
  obtain ⟨k4, hf⟩ := pm_if hf
  obtain ⟨y5, e6, hf⟩ := pm_lt hf
  obtain ⟨v7, e8, hf⟩ := pm_bd hf
  obtain ⟨v9, e10, hf⟩ := pm_bd hf
  cases hf
  exact K0
set_option maxHeartbeats 4000000 in
set_option maxRecDepth 100000 in
theorem kpX5_push {h : pm_H} {a0 : Nat} {p1 : Int64} {r : pm_H} (hf : fX5_push h a0 p1 = some r) : pm_S3 r h := by
  unfold fX5_push at hf
  have K0 := pm_S3.rf h
  obtain ⟨k1, hf⟩ := pm_if hf
  obtain ⟨v2, e3, hf⟩ := pm_bd hf
  obtain ⟨v4, e5, hf⟩ := pm_bd hf
  obtain ⟨k6, hf⟩ := pm_if hf
  obtain ⟨v7, e8, hf⟩ := pm_bd hf
  have K9 := pm_S3.trans (kpX12_setItem_ e8) K0
  obtain ⟨k10, hf⟩ := pm_if hf
  obtain ⟨v11, e12, hf⟩ := pm_bd hf
  obtain ⟨k13, hf⟩ := pm_if hf
  obtain ⟨y14, e15, hf⟩ := pm_lt hf
  cases hf
  exact K9
set_option maxHeartbeats 4000000 in
set_option maxRecDepth 100000 in
theorem klX5_tell {r : pm_H} : ∀ n : Nat, (∀ (x0 : Nat) (x1 : Int32) (x2 : Int32) (x3 : Int32) (h : pm_H), pm_iter sX5_tell n (x0, x1, x2, x3, h) = some r → pm_S3 r h) := by
  intro n
  induction n with
  | zero => exact fun _ _ _ _ _ hf => (by cases hf)
  | succ n ih =>
    refine fun x0 x1 x2 x3 h hf => ?_
    obtain ⟨y, hf, hi⟩ := pm_iter_s hf
    have hf : tX5_tell_7 x0 x1 x2 x3 h = some y := hf
    unfold tX5_tell_7 at hf
    have K0 := pm_S3.rf h
    by_cases c2 : x2 ≤ x3
    · have hf := pm_it hf c2
      cases hf
      cases hi
      exact K0
    · have hf := pm_ie hf c2
      obtain ⟨k3, hf⟩ := pm_if hf
      obtain ⟨v4, e5, hf⟩ := pm_bd hf
      obtain ⟨v6, e7, hf⟩ := pm_bd hf
      obtain ⟨v8, e9, hf⟩ := pm_bd hf
      obtain ⟨v10, e11, hf⟩ := pm_bd hf
      have K12 := pm_S3.trans (kpX12_setItem_ e11) K0
      obtain ⟨y13, e14, hf⟩ := pm_lt hf
      cases hf
      exact pm_S3.trans (ih x0 x1 x2 y13 v10 hi) K12
set_option maxHeartbeats 4000000 in
set_option maxRecDepth 100000 in
theorem kpX5_tell {h : pm_H} {a0 : Nat} {p1 : Int32} {p2 : Int32} {r : pm_H} (hf : fX5_tell h a0 p1 p2 = some r) : pm_S3 r h := by
  unfold fX5_tell at hf
  have K0 := pm_S3.rf h
  obtain ⟨k1, hf⟩ := pm_if hf
  obtain ⟨n, hn⟩ := pm_lim_iter hf
  exact pm_S3.trans ((klX5_tell n) a0 p1 p2 0 (pm_setI h a0 7 p2) hn) K0
set_option maxHeartbeats 4000000 in
set_option maxRecDepth 100000 in
theorem kpX8_divide64_b67 {h : pm_H} {x0 : Nat} {x1 : Int32} {x2 : Int64} {x4 : Int64} {s0 : Int32} {r : (Int64 × pm_H)} (hf : fX8_divide64_b67 h x0 x1 x2 x4 s0 = some r) : pm_S3 r.2 h := by
  unfold fX8_divide64_b67 at hf
  have K0 := pm_S3.rf h
  by_cases c11 : s0 = 0
  · have hf := pm_it hf c11
    by_cases c12 : s0 = 0
    · have hf := pm_it hf c12
      by_cases c13 : x1 = 6
      · have hf := pm_it hf c13
        obtain ⟨u14, hf⟩ := pm_if hf
        cases hf
        exact K0
      · have hf := pm_ie hf c13
        obtain ⟨u15, hf⟩ := pm_if hf
        cases hf
        exact K0
    · have hf := pm_ie hf c12
      cases hf
      exact K0
  · have hf := pm_ie hf c11
    by_cases c16 : x1 = 6
    · have hf := pm_it hf c16
      obtain ⟨k17, hf⟩ := pm_if hf
      by_cases c18 : s0 = 0
      · have hf := pm_it hf c18
        by_cases c19 : x1 = 6
        · have hf := pm_it hf c19
          obtain ⟨u20, hf⟩ := pm_if hf
          cases hf
          exact K0
        · have hf := pm_ie hf c19
          obtain ⟨u21, hf⟩ := pm_if hf
          cases hf
          exact K0
      · have hf := pm_ie hf c18
        cases hf
        exact K0
    · have hf := pm_ie hf c16
      by_cases c22 : s0 = 0
      · have hf := pm_it hf c22
        by_cases c23 : x1 = 6
        · have hf := pm_it hf c23
          obtain ⟨u24, hf⟩ := pm_if hf
          cases hf
          exact K0
        · have hf := pm_ie hf c23
          obtain ⟨u25, hf⟩ := pm_if hf
          cases hf
          exact K0
      · have hf := pm_ie hf c22
        cases hf
        exact K0
set_option maxHeartbeats 4000000 in
set_option maxRecDepth 100000 in
theorem kpX8_divide64_b66 {h : pm_H} {x0 : Nat} {x1 : Int32} {x2 : Int64} {x4 : Int64} {r : (Int64 × pm_H)} (hf : fX8_divide64_b66 h x0 x1 x2 x4 = some r) : pm_S3 r.2 h := by
  unfold fX8_divide64_b66 at hf
  have K0 := pm_S3.rf h
  exact pm_S3.trans (kpX8_divide64_b67 hf) K0
set_option maxHeartbeats 4000000 in
set_option maxRecDepth 100000 in
theorem kpX8_divide64 {h : pm_H} {a0 : Nat} {p1 : Int32} {p2 : Int64} {p3 : Int64} {r : (Int64 × pm_H)} (hf : fX8_divide64 h a0 p1 p2 p3 = some r) : pm_S3 r.2 h := by
  unfold fX8_divide64 at hf
  have K0 := pm_S3.rf h
  by_cases c1 : p3 = 0
  · have hf := pm_it hf c1
    obtain ⟨k2, hf⟩ := pm_if hf
    cases hf
    exact K0
  · have hf := pm_ie hf c1
    by_cases c3 : p1 = 7
    · have hf := pm_it hf c3
      obtain ⟨v4, e5, hf⟩ := pm_bd hf
      cases hf
      exact K0
    · have hf := pm_ie hf c3
      by_cases c6 : p1 = 9
      · have hf := pm_it hf c6
        obtain ⟨v7, e8, hf⟩ := pm_bd hf
        cases hf
        exact K0
      · have hf := pm_ie hf c6
        by_cases c9 : p2 = (-9223372036854775808)
        · have hf := pm_it hf c9
          by_cases c10 : p3 = (-1)
          · have hf := pm_it hf c10
            exact pm_S3.trans (kpX8_divide64_b67 hf) K0
          · have hf := pm_ie hf c10
            exact pm_S3.trans (kpX8_divide64_b66 hf) K0
        · have hf := pm_ie hf c9
          exact pm_S3.trans (kpX8_divide64_b66 hf) K0
set_option maxHeartbeats 4000000 in
set_option maxRecDepth 100000 in
theorem kpX8_whole64_b21 {h : pm_H} {x1 : Int32} {x2 : Int64} {x4 : Int64} {r : (Int64 × pm_H)} (hf : fX8_whole64_b21 h x1 x2 x4 = some r) : pm_S3 r.2 h := by
  unfold fX8_whole64_b21 at hf
  have K0 := pm_S3.rf h
  obtain ⟨y7, e8, hf⟩ := pm_lt hf
  by_cases c9 : x1 = 0
  · have hf := pm_it hf c9
    obtain ⟨v10, e11, hf⟩ := pm_lt hf
    cases hf
    exact K0
  have hf := pm_ie hf c9
  by_cases c12 : x1 = 1
  · have hf := pm_it hf c12
    obtain ⟨v13, e14, hf⟩ := pm_lt hf
    cases hf
    exact K0
  have hf := pm_ie hf c12
  by_cases c15 : x1 = 2
  · have hf := pm_it hf c15
    obtain ⟨v16, e17, hf⟩ := pm_lt hf
    cases hf
    exact K0
  have hf := pm_ie hf c15
  by_cases c18 : x1 = 3
  · have hf := pm_it hf c18
    cases hf
    exact K0
  have hf := pm_ie hf c18
  by_cases c19 : x1 = 4
  · have hf := pm_it hf c19
    cases hf
    exact K0
  have hf := pm_ie hf c19
  by_cases c20 : x1 = 5
  · have hf := pm_it hf c20
    cases hf
    exact K0
  have hf := pm_ie hf c20
  by_cases c21 : x1 = 6
  · have hf := pm_it hf c21
    cases hf
    exact K0
  have hf := pm_ie hf c21
  by_cases c22 : x1 = 7
  · have hf := pm_it hf c22
    cases hf
    exact K0
  have hf := pm_ie hf c22
  by_cases c23 : x1 = 8
  · have hf := pm_it hf c23
    cases hf
    exact K0
  have hf := pm_ie hf c23
  by_cases c24 : x1 = 9
  · have hf := pm_it hf c24
    cases hf
    exact K0
  have hf := pm_ie hf c24
  by_cases c25 : x1 = 10
  · have hf := pm_it hf c25
    cases hf
    exact K0
  have hf := pm_ie hf c25
  by_cases c26 : x1 = 11
  · have hf := pm_it hf c26
    cases hf
    exact K0
  have hf := pm_ie hf c26
  by_cases c27 : x1 = 12
  · have hf := pm_it hf c27
    cases hf
    exact K0
  have hf := pm_ie hf c27
  by_cases c28 : x1 = 13
  · have hf := pm_it hf c28
    cases hf
    exact K0
  have hf := pm_ie hf c28
  by_cases c29 : x1 = 14
  · have hf := pm_it hf c29
    cases hf
    exact K0
  have hf := pm_ie hf c29
  by_cases c30 : x1 = 15
  · have hf := pm_it hf c30
    cases hf
    exact K0
  have hf := pm_ie hf c30
  by_cases c31 : x1 = 16
  · have hf := pm_it hf c31
    cases hf
    exact K0
  have hf := pm_ie hf c31
  cases hf
  exact K0
set_option maxHeartbeats 4000000 in
set_option maxRecDepth 100000 in
theorem kpX8_whole64 {h : pm_H} {a0 : Nat} {p1 : Int32} {p2 : Int64} {p3 : Int64} {r : (Int64 × pm_H)} (hf : fX8_whole64 h a0 p1 p2 p3 = some r) : pm_S3 r.2 h := by
  unfold fX8_whole64 at hf
  have K0 := pm_S3.rf h
  by_cases c1 : p1 < 6
  · have hf := pm_it hf c1
    exact pm_S3.trans (kpX8_whole64_b21 hf) K0
  · have hf := pm_ie hf c1
    by_cases c2 : 9 < p1
    · have hf := pm_it hf c2
      exact pm_S3.trans (kpX8_whole64_b21 hf) K0
    · have hf := pm_ie hf c2
      obtain ⟨k3, hf⟩ := pm_if hf
      obtain ⟨v4, e5, hf⟩ := pm_bd hf
      have K6 := pm_S3.trans (kpX8_divide64 e5) K0
      cases hf
      exact K6
set_option maxHeartbeats 4000000 in
set_option maxRecDepth 100000 in
theorem kpX9_finish {h : pm_H} {a0 : Nat} {r : pm_H} (hf : fX9_finish h a0 = some r) : pm_S3 r h := by
  unfold fX9_finish at hf
  have K0 := pm_S3.rf h
  obtain ⟨k1, hf⟩ := pm_if hf
  obtain ⟨v2, e3, hf⟩ := pm_bd hf
  obtain ⟨k4, hf⟩ := pm_if hf
  obtain ⟨v5, e6, hf⟩ := pm_bd hf
  obtain ⟨v7, e8, hf⟩ := pm_bd hf
  obtain ⟨y9, e10, hf⟩ := pm_lt hf
  obtain ⟨v11, e12, hf⟩ := pm_bd hf
  obtain ⟨k13, hf⟩ := pm_if hf
  by_cases c14 : y9 = ((Int32.ofNat (pm_ln h v11)) / 2)
  · have hf := pm_it hf c14
    by_cases c15 : (pm_L h v2 14) < 0
    · have hf := pm_it hf c15
      cases hf
      exact K0
    · have hf := pm_ie hf c15
      obtain ⟨v16, e17, hf⟩ := pm_bd hf
      obtain ⟨k18, hf⟩ := pm_if hf
      by_cases c19 : (pm_L h v2 14) = (((Int32.ofNat (pm_ln h v16)) / 7).toInt64)
      · have hf := pm_it hf c19
        cases hf
        exact K0
      · have hf := pm_ie hf c19
        obtain ⟨v20, e21, hf⟩ := pm_bd hf
        have K22 := pm_S3.trans (kpX9_fail e21) K0
        cases hf
        exact K22
  · have hf := pm_ie hf c14
    obtain ⟨v23, e24, hf⟩ := pm_bd hf
    have K25 := pm_S3.trans (kpX9_fail e24) K0
    obtain ⟨k26, hf⟩ := pm_if hf
    obtain ⟨v27, e28, hf⟩ := pm_bd hf
    obtain ⟨k29, hf⟩ := pm_if hf
    by_cases c30 : (pm_L v23 v27 14) < 0
    · have hf := pm_it hf c30
      cases hf
      exact K25
    · have hf := pm_ie hf c30
      obtain ⟨v31, e32, hf⟩ := pm_bd hf
      obtain ⟨k33, hf⟩ := pm_if hf
      by_cases c34 : (pm_L v23 v27 14) = (((Int32.ofNat (pm_ln v23 v31)) / 7).toInt64)
      · have hf := pm_it hf c34
        cases hf
        exact K25
      · have hf := pm_ie hf c34
        obtain ⟨v35, e36, hf⟩ := pm_bd hf
        have K37 := pm_S3.trans (kpX9_fail e36) K25
        cases hf
        exact K37
set_option maxHeartbeats 4000000 in
set_option maxRecDepth 100000 in
theorem klX9_lowestFirst {r : (Int64 × pm_H)} : ∀ n : Nat, (∀ (x0 : Nat) (x1 : Int32) (x2 : Int64) (x4 : Int32) (h : pm_H), pm_iter sX9_lowestFirst n (x0, x1, x2, x4, h) = some r → pm_S3 r.2 h) := by
  intro n
  induction n with
  | zero => exact fun _ _ _ _ _ hf => (by cases hf)
  | succ n ih =>
    refine fun x0 x1 x2 x4 h hf => ?_
    obtain ⟨y, hf, hi⟩ := pm_iter_s hf
    have hf : tX9_lowestFirst_5 x0 x1 x2 x4 h = some y := hf
    unfold tX9_lowestFirst_5 at hf
    have K0 := pm_S3.rf h
    by_cases c1 : x1 ≤ x4
    · have hf := pm_it hf c1
      cases hf
      cases hi
      exact K0
    · have hf := pm_ie hf c1
      obtain ⟨k2, hf⟩ := pm_if hf
      obtain ⟨v3, e4, hf⟩ := pm_bd hf
      have K5 := pm_S3.trans (kpX9_next e4) K0
      obtain ⟨y6, e7, hf⟩ := pm_lt hf
      obtain ⟨y8, e9, hf⟩ := pm_lt hf
      cases hf
      exact pm_S3.trans (ih x0 x1 y6 y8 v3.2 hi) K5
set_option maxHeartbeats 4000000 in
set_option maxRecDepth 100000 in
theorem kpX9_lowestFirst {h : pm_H} {a0 : Nat} {p1 : Int32} {r : (Int64 × pm_H)} (hf : fX9_lowestFirst h a0 p1 = some r) : pm_S3 r.2 h := by
  unfold fX9_lowestFirst at hf
  have K0 := pm_S3.rf h
  obtain ⟨n, hn⟩ := pm_lim_iter hf
  exact pm_S3.trans ((klX9_lowestFirst n) a0 p1 0 0 h hn) K0
set_option maxHeartbeats 4000000 in
set_option maxRecDepth 100000 in
theorem klX11_copy {r : pm_H} : ∀ n : Nat, (∀ (x0 : Nat) (x1 : Int32) (x2 : Int32) (x3 : Int64) (x5 : Int64) (x7 : Int64) (x9 : Int32) (x10 : Int64) (h : pm_H), pm_iter sX11_copy n (x0, x1, x2, x3, x5, x7, x9, x10, h) = some r → pm_S3 r h) := by
  intro n
  induction n with
  | zero => exact fun _ _ _ _ _ _ _ _ _ hf => (by cases hf)
  | succ n ih =>
    refine fun x0 x1 x2 x3 x5 x7 x9 x10 h hf => ?_
    obtain ⟨y, hf, hi⟩ := pm_iter_s hf
    have hf : tX11_copy_17 x0 x1 x2 x3 x5 x7 x9 x10 h = some y := hf
    unfold tX11_copy_17 at hf
    have K0 := pm_S3.rf h
    by_cases c2 : x7 ≤ x10
    · have hf := pm_it hf c2
      cases hf
      cases hi
      exact K0
    · have hf := pm_ie hf c2
      by_cases c3 : x9 = 0
      · have hf := pm_it hf c3
        obtain ⟨k4, hf⟩ := pm_if hf
        obtain ⟨v5, e6, hf⟩ := pm_bd hf
        obtain ⟨v7, e8, hf⟩ := pm_bd hf
        have K9 := pm_S3.trans (kpX11_setEntry e8) K0
        obtain ⟨y10, e11, hf⟩ := pm_lt hf
        cases hf
        exact pm_S3.trans (ih x0 x1 x2 x3 x5 x7 x9 y10 v7 hi) K9
      · have hf := pm_ie hf c3
        obtain ⟨y12, e13, hf⟩ := pm_lt hf
        obtain ⟨k14, hf⟩ := pm_if hf
        obtain ⟨v15, e16, hf⟩ := pm_bd hf
        obtain ⟨v17, e18, hf⟩ := pm_bd hf
        have K19 := pm_S3.trans (kpX11_setEntry e18) K0
        obtain ⟨y20, e21, hf⟩ := pm_lt hf
        cases hf
        exact pm_S3.trans (ih x0 x1 x2 x3 x5 x7 x9 y20 v17 hi) K19
set_option maxHeartbeats 4000000 in
set_option maxRecDepth 100000 in
theorem kpX11_copy {h : pm_H} {a0 : Nat} {p1 : Int32} {p2 : Int32} {p3 : Int64} {p4 : Int64} {p5 : Int64} {r : pm_H} (hf : fX11_copy h a0 p1 p2 p3 p4 p5 = some r) : pm_S3 r h := by
  unfold fX11_copy at hf
  have K0 := pm_S3.rf h
  by_cases c1 : p3 ≤ p4
  · have hf := pm_it hf c1
    obtain ⟨n, hn⟩ := pm_lim_iter hf
    exact pm_S3.trans ((klX11_copy n) a0 p1 p2 p3 p4 p5 0 0 h hn) K0
  · have hf := pm_ie hf c1
    obtain ⟨n, hn⟩ := pm_lim_iter hf
    exact pm_S3.trans ((klX11_copy n) a0 p1 p2 p3 p4 p5 1 0 h hn) K0
set_option maxHeartbeats 4000000 in
set_option maxRecDepth 100000 in
theorem klX11_copyFrom {r : pm_H} : ∀ n : Nat, (∀ (x0 : Nat) (x1 : Nat) (x2 : Int32) (x3 : Int64) (x5 : Int64) (x7 : Int64) (x9 : Int64) (h : pm_H), pm_iter sX11_copyFrom n (x0, x1, x2, x3, x5, x7, x9, h) = some r → pm_S3 r h) := by
  intro n
  induction n with
  | zero => exact fun _ _ _ _ _ _ _ _ hf => (by cases hf)
  | succ n ih =>
    refine fun x0 x1 x2 x3 x5 x7 x9 h hf => ?_
    obtain ⟨y, hf, hi⟩ := pm_iter_s hf
    have hf : tX11_copyFrom_3 x0 x1 x2 x3 x5 x7 x9 h = some y := hf
    unfold tX11_copyFrom_3 at hf
    have K0 := pm_S3.rf h
    by_cases c1 : x7 ≤ x9
    · have hf := pm_it hf c1
      cases hf
      cases hi
      exact K0
    · have hf := pm_ie hf c1
      obtain ⟨v2, e3, hf⟩ := pm_bd hf
      obtain ⟨k4, hf⟩ := pm_if hf
      obtain ⟨v5, e6, hf⟩ := pm_bd hf
      have K7 := pm_S3.trans (kpX11_setEntry e6) K0
      obtain ⟨y8, e9, hf⟩ := pm_lt hf
      cases hf
      exact pm_S3.trans (ih x0 x1 x2 x3 x5 x7 y8 v5 hi) K7
set_option maxHeartbeats 4000000 in
set_option maxRecDepth 100000 in
theorem kpX11_copyFrom {h : pm_H} {a0 : Nat} {p1 : Nat} {p2 : Int32} {p3 : Int64} {p4 : Int64} {p5 : Int64} {r : pm_H} (hf : fX11_copyFrom h a0 p1 p2 p3 p4 p5 = some r) : pm_S3 r h := by
  unfold fX11_copyFrom at hf
  have K0 := pm_S3.rf h
  obtain ⟨n, hn⟩ := pm_lim_iter hf
  exact pm_S3.trans ((klX11_copyFrom n) a0 p1 p2 p3 p4 p5 0 h hn) K0
set_option maxHeartbeats 4000000 in
set_option maxRecDepth 100000 in
theorem kpX12_feed {h : pm_H} {a0 : Nat} {p1 : Int32} {p2 : Int32} {p3 : Int32} {p4 : Int32} {p5 : Int32} {r : (Int32 × pm_H)} (hf : fX12_feed h a0 p1 p2 p3 p4 p5 = some r) : pm_S3 r.2 h := by
  unfold fX12_feed at hf
  have K0 := pm_S3.rf h
  obtain ⟨k1, hf⟩ := pm_if hf
  by_cases c2 : (pm_I h a0 2) ≤ 40940
  · have hf := pm_it hf c2
    obtain ⟨v3, e4, hf⟩ := pm_bd hf
    have K5 := pm_S3.trans (kpX12_write e4) K0
    obtain ⟨k6, hf⟩ := pm_if hf
    obtain ⟨v7, e8, hf⟩ := pm_bd hf
    have K9 := pm_S3.trans (kpX12_write e8) K5
    obtain ⟨k10, hf⟩ := pm_if hf
    obtain ⟨v11, e12, hf⟩ := pm_bd hf
    have K13 := pm_S3.trans (kpX12_write e12) K9
    obtain ⟨k14, hf⟩ := pm_if hf
    obtain ⟨v15, e16, hf⟩ := pm_bd hf
    have K17 := pm_S3.trans (kpX12_write e16) K13
    obtain ⟨k18, hf⟩ := pm_if hf
    obtain ⟨v19, e20, hf⟩ := pm_bd hf
    have K21 := pm_S3.trans (kpX12_write e20) K17
    obtain ⟨k22, hf⟩ := pm_if hf
    obtain ⟨y23, e24, hf⟩ := pm_lt hf
    obtain ⟨y25, e26, hf⟩ := pm_lt hf
    cases hf
    exact K21
  · have hf := pm_ie hf c2
    cases hf
    exact K0
set_option maxHeartbeats 4000000 in
set_option maxRecDepth 100000 in
theorem kpX12_offerOf {h : pm_H} {a0 : Nat} {p1 : Int32} {p2 : Int32} {r : (Int32 × pm_H)} (hf : fX12_offerOf h a0 p1 p2 = some r) : pm_S3 r.2 h := by
  unfold fX12_offerOf at hf
  have K0 := pm_S3.rf h
  obtain ⟨k1, hf⟩ := pm_if hf
  obtain ⟨v2, e3, hf⟩ := pm_bd hf
  obtain ⟨v4, e5, hf⟩ := pm_bd hf
  have K6 := pm_S3.trans (kpX12_setItem e5) K0
  obtain ⟨k7, hf⟩ := pm_if hf
  obtain ⟨v8, e9, hf⟩ := pm_bd hf
  obtain ⟨v10, e11, hf⟩ := pm_bd hf
  have K12 := pm_S3.trans (kpX12_setItem e11) K6
  obtain ⟨k13, hf⟩ := pm_if hf
  obtain ⟨y14, e15, hf⟩ := pm_lt hf
  cases hf
  exact K12
set_option maxHeartbeats 4000000 in
set_option maxRecDepth 100000 in
theorem kpX12_poke {h : pm_H} {a0 : Nat} {p1 : Int32} {p2 : Int32} {p3 : Int32} {p4 : Int32} {r : (Int32 × pm_H)} (hf : fX12_poke h a0 p1 p2 p3 p4 = some r) : pm_S3 r.2 h := by
  unfold fX12_poke at hf
  have K0 := pm_S3.rf h
  obtain ⟨k1, hf⟩ := pm_if hf
  obtain ⟨v2, e3, hf⟩ := pm_bd hf
  obtain ⟨k4, hf⟩ := pm_if hf
  obtain ⟨v5, e6, hf⟩ := pm_bd hf
  obtain ⟨k7, hf⟩ := pm_if hf
  obtain ⟨v8, e9, hf⟩ := pm_bd hf
  obtain ⟨y10, e11, hf⟩ := pm_lt hf
  obtain ⟨v12, e13, hf⟩ := pm_bd hf
  obtain ⟨k14, hf⟩ := pm_if hf
  obtain ⟨v15, e16, hf⟩ := pm_bd hf
  by_cases c17 : v15 = 0
  · have hf := pm_it hf c17
    obtain ⟨v18, e19, hf⟩ := pm_bd hf
    by_cases c20 : v18 = 2
    · have hf := pm_it hf c20
      obtain ⟨v21, e22, hf⟩ := pm_bd hf
      obtain ⟨k23, hf⟩ := pm_if hf
      obtain ⟨v24, e25, hf⟩ := pm_bd hf
      by_cases c26 : v24 = 0
      · have hf := pm_it hf c26
        cases hf
        exact K0
      · have hf := pm_ie hf c26
        obtain ⟨v27, e28, hf⟩ := pm_bd hf
        have K29 := pm_S3.trans (kpX6_setByte e28) K0
        cases hf
        exact K29
    · have hf := pm_ie hf c20
      cases hf
      exact K0
  · have hf := pm_ie hf c17
    cases hf
    exact K0
