set_option maxHeartbeats 4000000 in
set_option maxRecDepth 100000 in
theorem kpX0_emit {h : pm_H} {a0 : Nat} {p1 : Int32} {p2 : Int32} {p3 : Int32} {p4 : Int32} {p5 : Int32} {r : (Int32 × pm_H)} (hf : fX0_emit h a0 p1 p2 p3 p4 p5 = some r) : pm_S3 r.2 h := by
  unfold fX0_emit at hf
  have K0 := pm_S3.rf h
  obtain ⟨k1, hf⟩ := pm_if hf
  obtain ⟨y2, e3, hf⟩ := pm_lt hf
  by_cases c4 : y2 < 0
  · have hf := pm_it hf c4
    cases hf
    exact K0
  · have hf := pm_ie hf c4
    obtain ⟨v5, e6, hf⟩ := pm_bd hf
    obtain ⟨k7, hf⟩ := pm_if hf
    by_cases c8 : y2 ≤ ((Int32.ofNat (pm_ln h v5)) - 5)
    · have hf := pm_it hf c8
      obtain ⟨u9, hf⟩ := pm_if hf
      obtain ⟨u10, hf⟩ := pm_if hf
      obtain ⟨u11, hf⟩ := pm_if hf
      obtain ⟨u12, hf⟩ := pm_if hf
      obtain ⟨u13, hf⟩ := pm_if hf
      obtain ⟨y14, e15, hf⟩ := pm_lt hf
      cases hf
      exact K0
    · have hf := pm_ie hf c8
      cases hf
      exact K0
set_option maxHeartbeats 4000000 in
set_option maxRecDepth 100000 in
theorem kpX1_declare {h : pm_H} {a0 : Nat} {p1 : Int64} {r : pm_H} (hf : fX1_declare h a0 p1 = some r) : pm_S3 r h := by
  unfold fX1_declare at hf
  have K0 := pm_S3.rf h
  by_cases c1 : p1 < 0
  · have hf := pm_it hf c1
    cases hf
    exact K0
  · have hf := pm_ie hf c1
    obtain ⟨k2, hf⟩ := pm_if hf
    obtain ⟨v3, e4, hf⟩ := pm_bd hf
    obtain ⟨k5, hf⟩ := pm_if hf
    by_cases c6 : ((Int32.ofNat (pm_ln h v3)).toInt64) ≤ p1
    · have hf := pm_it hf c6
      cases hf
      exact K0
    · have hf := pm_ie hf c6
      obtain ⟨u7, hf⟩ := pm_if hf
      cases hf
      exact K0
set_option maxHeartbeats 4000000 in
set_option maxRecDepth 100000 in
theorem kpX1_fail {h : pm_H} {a0 : Nat} {p1 : Int32} {r : pm_H} (hf : fX1_fail h a0 p1 = some r) : pm_S3 r h := by
  unfold fX1_fail at hf
  have K0 := pm_S3.rf h
  obtain ⟨k1, hf⟩ := pm_if hf
  by_cases c2 : (pm_I h a0 0) = 0
  · have hf := pm_it hf c2
    obtain ⟨v3, e4, hf⟩ := pm_bd hf
    obtain ⟨k5, hf⟩ := pm_if hf
    obtain ⟨y6, e7, hf⟩ := pm_lt hf
    cases hf
    exact K0
  · have hf := pm_ie hf c2
    cases hf
    exact K0
set_option maxHeartbeats 4000000 in
set_option maxRecDepth 100000 in
theorem kpX1_failAt {h : pm_H} {a0 : Nat} {p1 : Int32} {p2 : Int32} {r : pm_H} (hf : fX1_failAt h a0 p1 p2 = some r) : pm_S3 r h := by
  unfold fX1_failAt at hf
  have K0 := pm_S3.rf h
  obtain ⟨k1, hf⟩ := pm_if hf
  by_cases c2 : (pm_I h a0 0) = 0
  · have hf := pm_it hf c2
    cases hf
    exact K0
  · have hf := pm_ie hf c2
    cases hf
    exact K0
set_option maxHeartbeats 4000000 in
set_option maxRecDepth 100000 in
theorem kpX2_emit {h : pm_H} {a0 : Nat} {p1 : Int32} {p2 : Int32} {r : (Int32 × pm_H)} (hf : fX2_emit h a0 p1 p2 = some r) : pm_S3 r.2 h := by
  unfold fX2_emit at hf
  have K0 := pm_S3.rf h
  obtain ⟨k1, hf⟩ := pm_if hf
  obtain ⟨y2, e3, hf⟩ := pm_lt hf
  obtain ⟨v4, e5, hf⟩ := pm_bd hf
  obtain ⟨k6, hf⟩ := pm_if hf
  by_cases c7 : y2 ≤ ((Int32.ofNat (pm_ln h v4)) - 8)
  · have hf := pm_it hf c7
    obtain ⟨u8, hf⟩ := pm_if hf
    obtain ⟨y9, e10, hf⟩ := pm_lt hf
    obtain ⟨u11, hf⟩ := pm_if hf
    obtain ⟨y12, e13, hf⟩ := pm_lt hf
    cases hf
    exact K0
  · have hf := pm_ie hf c7
    cases hf
    exact K0
set_option maxHeartbeats 4000000 in
set_option maxRecDepth 100000 in
theorem klX2_markTargets {r : pm_H} : ∀ n : Nat, (∀ (x0 : Nat) (x1 : Int32) (h : pm_H), pm_iter sX2_markTargets n (x0, x1, h) = some r → pm_S3 r h) := by
  intro n
  induction n with
  | zero => exact fun _ _ _ hf => (by cases hf)
  | succ n ih =>
    refine fun x0 x1 h hf => ?_
    obtain ⟨y, hf, hi⟩ := pm_iter_s hf
    have hf : tX2_markTargets_2 x0 x1 h = some y := hf
    unfold tX2_markTargets_2 at hf
    have K0 := pm_S3.rf h
    obtain ⟨k1, hf⟩ := pm_if hf
    obtain ⟨v2, e3, hf⟩ := pm_bd hf
    obtain ⟨k4, hf⟩ := pm_if hf
    by_cases c5 : (pm_I h v2 2) ≤ x1
    · have hf := pm_it hf c5
      cases hf
      cases hi
      exact K0
    · have hf := pm_ie hf c5
      obtain ⟨v6, e7, hf⟩ := pm_bd hf
      obtain ⟨v8, e9, hf⟩ := pm_bd hf
      obtain ⟨v10, e11, hf⟩ := pm_lt hf
      by_cases c12 : v10 = 0
      · have hf := pm_it hf c12
        obtain ⟨y13, e14, hf⟩ := pm_lt hf
        cases hf
        exact pm_S3.trans (ih x0 y13 h hi) K0
      · have hf := pm_ie hf c12
        by_cases c15 : v6 < 0
        · have hf := pm_it hf c15
          obtain ⟨y16, e17, hf⟩ := pm_lt hf
          cases hf
          exact pm_S3.trans (ih x0 y16 h hi) K0
        · have hf := pm_ie hf c15
          obtain ⟨v18, e19, hf⟩ := pm_bd hf
          obtain ⟨k20, hf⟩ := pm_if hf
          by_cases c21 : (Int32.ofNat (pm_ln h v18)) ≤ v6
          · have hf := pm_it hf c21
            obtain ⟨y22, e23, hf⟩ := pm_lt hf
            cases hf
            exact pm_S3.trans (ih x0 y22 h hi) K0
          · have hf := pm_ie hf c21
            obtain ⟨u24, hf⟩ := pm_if hf
            obtain ⟨y25, e26, hf⟩ := pm_lt hf
            cases hf
            exact pm_S3.trans (ih x0 y25 (pm_setI h v18 v6.toNatClampNeg (vp_nar .boolean 1)) hi) K0
set_option maxHeartbeats 4000000 in
set_option maxRecDepth 100000 in
theorem kpX2_markTargets {h : pm_H} {a0 : Nat} {r : pm_H} (hf : fX2_markTargets h a0 = some r) : pm_S3 r h := by
  unfold fX2_markTargets at hf
  have K0 := pm_S3.rf h
  obtain ⟨n, hn⟩ := pm_lim_iter hf
  exact pm_S3.trans ((klX2_markTargets n) a0 0 h hn) K0
set_option maxHeartbeats 4000000 in
set_option maxRecDepth 100000 in
theorem klX2_ownUnseen {r : pm_H} : ∀ n : Nat, (∀ (x0 : Nat) (x1 : Int32) (x2 : Int32) (h : pm_H), pm_iter sX2_ownUnseen n (x0, x1, x2, h) = some r → pm_S3 r h) := by
  intro n
  induction n with
  | zero => exact fun _ _ _ _ hf => (by cases hf)
  | succ n ih =>
    refine fun x0 x1 x2 h hf => ?_
    obtain ⟨y, hf, hi⟩ := pm_iter_s hf
    have hf : tX2_ownUnseen_2 x0 x1 x2 h = some y := hf
    unfold tX2_ownUnseen_2 at hf
    have K0 := pm_S3.rf h
    by_cases c1 : x1 ≤ x2
    · have hf := pm_it hf c1
      obtain ⟨k2, hf⟩ := pm_if hf
      cases hf
      cases hi
      exact K0
    · have hf := pm_ie hf c1
      obtain ⟨k3, hf⟩ := pm_if hf
      obtain ⟨v4, e5, hf⟩ := pm_bd hf
      obtain ⟨k6, hf⟩ := pm_if hf
      by_cases c7 : (Int32.ofNat (pm_ln h v4)) ≤ x2
      · have hf := pm_it hf c7
        cases hf
        cases hi
        exact K0
      · have hf := pm_ie hf c7
        obtain ⟨y8, e9, hf⟩ := pm_lt hf
        obtain ⟨u10, hf⟩ := pm_if hf
        obtain ⟨y11, e12, hf⟩ := pm_lt hf
        cases hf
        exact pm_S3.trans (ih x0 x1 y11 (pm_setI h v4 x2.toNatClampNeg y8) hi) K0
set_option maxHeartbeats 4000000 in
set_option maxRecDepth 100000 in
theorem kpX2_ownUnseen {h : pm_H} {a0 : Nat} {p1 : Int32} {r : pm_H} (hf : fX2_ownUnseen h a0 p1 = some r) : pm_S3 r h := by
  unfold fX2_ownUnseen at hf
  have K0 := pm_S3.rf h
  obtain ⟨n, hn⟩ := pm_lim_iter hf
  exact pm_S3.trans ((klX2_ownUnseen n) a0 p1 0 h hn) K0
set_option maxHeartbeats 4000000 in
set_option maxRecDepth 100000 in
theorem kpX5_chooseCode_b40 {h : pm_H} {x0 : Nat} {s0 : Nat} {r : pm_H} (hf : fX5_chooseCode_b40 h x0 s0 = some r) : pm_S3 r h := by
  unfold fX5_chooseCode_b40 at hf
  have K0 := pm_S3.rf h
  obtain ⟨k14, hf⟩ := pm_if hf
  obtain ⟨k15, hf⟩ := pm_if hf
  obtain ⟨v16, e17, hf⟩ := pm_bd hf
  obtain ⟨k18, hf⟩ := pm_if hf
  by_cases c19 : (pm_I (pm_setI h s0 7 0) v16 7) = 0
  · have hf := pm_it hf c19
    cases hf
    exact K0
  · have hf := pm_ie hf c19
    obtain ⟨v20, e21, hf⟩ := pm_bd hf
    obtain ⟨k22, hf⟩ := pm_if hf
    obtain ⟨v23, e24, hf⟩ := pm_bd hf
    cases hf
    exact K0
set_option maxHeartbeats 4000000 in
set_option maxRecDepth 100000 in
theorem kpX5_chooseCode {h : pm_H} {a0 : Nat} {r : pm_H} (hf : fX5_chooseCode h a0 = some r) : pm_S3 r h := by
  unfold fX5_chooseCode at hf
  have K0 := pm_S3.rf h
  obtain ⟨k1, hf⟩ := pm_if hf
  obtain ⟨v2, e3, hf⟩ := pm_bd hf
  obtain ⟨k4, hf⟩ := pm_if hf
  by_cases c5 : (pm_I (pm_setI h v2 6 0) v2 7) = 0
  · have hf := pm_it hf c5
    exact pm_S3.trans (kpX5_chooseCode_b40 hf) K0
  · have hf := pm_ie hf c5
    obtain ⟨v6, e7, hf⟩ := pm_bd hf
    obtain ⟨k8, hf⟩ := pm_if hf
    obtain ⟨v9, e10, hf⟩ := pm_bd hf
    obtain ⟨k11, hf⟩ := pm_if hf
    by_cases c12 : (Int32.ofNat (pm_ln (pm_setI h v2 6 0) v9)) ≤ 0
    · have hf := pm_it hf c12
      exact pm_S3.trans (kpX5_chooseCode_b40 hf) K0
    · have hf := pm_ie hf c12
      by_cases c13 : (pm_I (pm_setI (pm_setI h v2 6 0) v2 7 1) v2 7) = 0
      · have hf := pm_it hf c13
        cases hf
        exact K0
      · have hf := pm_ie hf c13
        cases hf
        exact K0
set_option maxHeartbeats 4000000 in
set_option maxRecDepth 100000 in
theorem kpX5_clearFrames {h : pm_H} {a0 : Nat} {r : pm_H} (hf : fX5_clearFrames h a0 = some r) : pm_S3 r h := by
  unfold fX5_clearFrames at hf
  have K0 := pm_S3.rf h
  obtain ⟨k1, hf⟩ := pm_if hf
  cases hf
  exact K0
set_option maxHeartbeats 4000000 in
set_option maxRecDepth 100000 in
theorem kpX5_stop {h : pm_H} {a0 : Nat} {p1 : Int32} {r : pm_H} (hf : fX5_stop h a0 p1 = some r) : pm_S3 r h := by
  unfold fX5_stop at hf
  have K0 := pm_S3.rf h
  obtain ⟨k1, hf⟩ := pm_if hf
  obtain ⟨v2, e3, hf⟩ := pm_bd hf
  have K4 := pm_S3.trans (kpX5_clearFrames e3) K0
  obtain ⟨k5, hf⟩ := pm_if hf
  cases hf
  exact K4
set_option maxHeartbeats 4000000 in
set_option maxRecDepth 100000 in
theorem kpX6_setByte {h : pm_H} {a0 : Nat} {p1 : Int32} {p2 : Int64} {p3 : Int32} {r : pm_H} (hf : fX6_setByte h a0 p1 p2 p3 = some r) : pm_S3 r h := by
  unfold fX6_setByte at hf
  have K0 := pm_S3.rf h
  obtain ⟨k1, hf⟩ := pm_if hf
  obtain ⟨v2, e3, hf⟩ := pm_bd hf
  obtain ⟨v4, e5, hf⟩ := pm_bd hf
  obtain ⟨k6, hf⟩ := pm_if hf
  obtain ⟨u7, hf⟩ := pm_if hf
  obtain ⟨v8, e9, hf⟩ := pm_bd hf
  obtain ⟨y10, e11, hf⟩ := pm_lt hf
  obtain ⟨k12, hf⟩ := pm_if hf
  by_cases c13 : (Int32.ofNat (pm_ln h v8)) ≤ y10
  · have hf := pm_it hf c13
    cases hf
    exact K0
  · have hf := pm_ie hf c13
    obtain ⟨u14, hf⟩ := pm_if hf
    cases hf
    exact K0
set_option maxHeartbeats 4000000 in
set_option maxRecDepth 100000 in
theorem kpX7_setSpace {h : pm_H} {a0 : Nat} {p1 : Int32} {p2 : Nat} {r : pm_H} (hf : fX7_setSpace h a0 p1 p2 = some r) : pm_S3 r h := by
  unfold fX7_setSpace at hf
  have K0 := pm_S3.rf h
  by_cases c1 : p1 = 0
  · have hf := pm_it hf c1
    obtain ⟨k2, hf⟩ := pm_if hf
    cases hf
    exact K0
  · have hf := pm_ie hf c1
    by_cases c3 : p1 = 1
    · have hf := pm_it hf c3
      obtain ⟨k4, hf⟩ := pm_if hf
      cases hf
      exact K0
    · have hf := pm_ie hf c3
      by_cases c5 : p1 = 2
      · have hf := pm_it hf c5
        obtain ⟨k6, hf⟩ := pm_if hf
        cases hf
        exact K0
      · have hf := pm_ie hf c5
        obtain ⟨k7, hf⟩ := pm_if hf
        cases hf
        exact K0
set_option maxHeartbeats 4000000 in
set_option maxRecDepth 100000 in
theorem kpX8_divide32_b72 {h : pm_H} {x1 : Int32} {x3 : Int32} {x4 : Int64} {r : (Int64 × pm_H)} (hf : fX8_divide32_b72 h x1 x3 x4 = some r) : pm_S3 r.2 h := by
  unfold fX8_divide32_b72 at hf
  have K0 := pm_S3.rf h
  by_cases c16 : 7 < x1
  · have hf := pm_it hf c16
    obtain ⟨u17, hf⟩ := pm_if hf
    cases hf
    exact K0
  · have hf := pm_ie hf c16
    obtain ⟨u18, hf⟩ := pm_if hf
    cases hf
    exact K0
set_option maxHeartbeats 4000000 in
set_option maxRecDepth 100000 in
theorem kpX8_divide32_b58 {h : pm_H} {x1 : Int32} {x3 : Int32} {s0 : Int64} {r : (Int64 × pm_H)} (hf : fX8_divide32_b58 h x1 x3 s0 = some r) : pm_S3 r.2 h := by
  unfold fX8_divide32_b58 at hf
  have K0 := pm_S3.rf h
  by_cases c9 : x1 = 6
  · have hf := pm_it hf c9
    exact pm_S3.trans (kpX8_divide32_b72 hf) K0
  · have hf := pm_ie hf c9
    by_cases c10 : x1 = 8
    · have hf := pm_it hf c10
      exact pm_S3.trans (kpX8_divide32_b72 hf) K0
    · have hf := pm_ie hf c10
      obtain ⟨y11, e12, hf⟩ := pm_lt hf
      by_cases c13 : 7 < x1
      · have hf := pm_it hf c13
        obtain ⟨u14, hf⟩ := pm_if hf
        cases hf
        exact K0
      · have hf := pm_ie hf c13
        obtain ⟨u15, hf⟩ := pm_if hf
        cases hf
        exact K0
set_option maxHeartbeats 4000000 in
set_option maxRecDepth 100000 in
theorem kpX8_divide32_b47 {h : pm_H} {x1 : Int32} {x2 : Int32} {x3 : Int32} {r : (Int64 × pm_H)} (hf : fX8_divide32_b47 h x1 x2 x3 = some r) : pm_S3 r.2 h := by
  unfold fX8_divide32_b47 at hf
  have K0 := pm_S3.rf h
  exact pm_S3.trans (kpX8_divide32_b58 hf) K0
set_option maxHeartbeats 4000000 in
set_option maxRecDepth 100000 in
theorem kpX8_divide32_b35 {h : pm_H} {x1 : Int32} {x2 : Int32} {x3 : Int32} {r : (Int64 × pm_H)} (hf : fX8_divide32_b35 h x1 x2 x3 = some r) : pm_S3 r.2 h := by
  unfold fX8_divide32_b35 at hf
  have K0 := pm_S3.rf h
  by_cases c7 : x1 = 6
  · have hf := pm_it hf c7
    exact pm_S3.trans (kpX8_divide32_b47 hf) K0
  · have hf := pm_ie hf c7
    by_cases c8 : x1 = 8
    · have hf := pm_it hf c8
      exact pm_S3.trans (kpX8_divide32_b47 hf) K0
    · have hf := pm_ie hf c8
      exact pm_S3.trans (kpX8_divide32_b58 hf) K0
set_option maxHeartbeats 4000000 in
set_option maxRecDepth 100000 in
theorem kpX8_divide32 {h : pm_H} {a0 : Nat} {p1 : Int32} {p2 : Int32} {p3 : Int32} {r : (Int64 × pm_H)} (hf : fX8_divide32 h a0 p1 p2 p3 = some r) : pm_S3 r.2 h := by
  unfold fX8_divide32 at hf
  have K0 := pm_S3.rf h
  by_cases c1 : p3 = 0
  · have hf := pm_it hf c1
    obtain ⟨k2, hf⟩ := pm_if hf
    cases hf
    exact K0
  · have hf := pm_ie hf c1
    by_cases c3 : p1 = 6
    · have hf := pm_it hf c3
      by_cases c4 : p2 = (-2147483648)
      · have hf := pm_it hf c4
        by_cases c5 : p3 = (-1)
        · have hf := pm_it hf c5
          obtain ⟨k6, hf⟩ := pm_if hf
          cases hf
          exact K0
        · have hf := pm_ie hf c5
          exact pm_S3.trans (kpX8_divide32_b35 hf) K0
      · have hf := pm_ie hf c4
        exact pm_S3.trans (kpX8_divide32_b35 hf) K0
    · have hf := pm_ie hf c3
      exact pm_S3.trans (kpX8_divide32_b35 hf) K0
set_option maxHeartbeats 4000000 in
set_option maxRecDepth 100000 in
theorem kpX8_whole32_b20 {h : pm_H} {x1 : Int32} {x2 : Int32} {x3 : Int32} {r : (Int64 × pm_H)} (hf : fX8_whole32_b20 h x1 x2 x3 = some r) : pm_S3 r.2 h := by
  unfold fX8_whole32_b20 at hf
  have K0 := pm_S3.rf h
  by_cases c7 : x1 = 0
  · have hf := pm_it hf c7
    obtain ⟨v8, e9, hf⟩ := pm_lt hf
    cases hf
    exact K0
  have hf := pm_ie hf c7
  by_cases c10 : x1 = 1
  · have hf := pm_it hf c10
    obtain ⟨v11, e12, hf⟩ := pm_lt hf
    cases hf
    exact K0
  have hf := pm_ie hf c10
  by_cases c13 : x1 = 2
  · have hf := pm_it hf c13
    obtain ⟨v14, e15, hf⟩ := pm_lt hf
    cases hf
    exact K0
  have hf := pm_ie hf c13
  by_cases c16 : x1 = 3
  · have hf := pm_it hf c16
    cases hf
    exact K0
  have hf := pm_ie hf c16
  by_cases c17 : x1 = 4
  · have hf := pm_it hf c17
    cases hf
    exact K0
  have hf := pm_ie hf c17
  by_cases c18 : x1 = 5
  · have hf := pm_it hf c18
    cases hf
    exact K0
  have hf := pm_ie hf c18
  by_cases c19 : x1 = 6
  · have hf := pm_it hf c19
    cases hf
    exact K0
  have hf := pm_ie hf c19
  by_cases c20 : x1 = 7
  · have hf := pm_it hf c20
    cases hf
    exact K0
  have hf := pm_ie hf c20
  by_cases c21 : x1 = 8
  · have hf := pm_it hf c21
    cases hf
    exact K0
  have hf := pm_ie hf c21
  by_cases c22 : x1 = 9
  · have hf := pm_it hf c22
    cases hf
    exact K0
  have hf := pm_ie hf c22
  by_cases c23 : x1 = 10
  · have hf := pm_it hf c23
    cases hf
    exact K0
  have hf := pm_ie hf c23
  by_cases c24 : x1 = 11
  · have hf := pm_it hf c24
    cases hf
    exact K0
  have hf := pm_ie hf c24
  by_cases c25 : x1 = 12
  · have hf := pm_it hf c25
    cases hf
    exact K0
  have hf := pm_ie hf c25
  by_cases c26 : x1 = 13
  · have hf := pm_it hf c26
    cases hf
    exact K0
  have hf := pm_ie hf c26
  by_cases c27 : x1 = 14
  · have hf := pm_it hf c27
    cases hf
    exact K0
  have hf := pm_ie hf c27
  by_cases c28 : x1 = 15
  · have hf := pm_it hf c28
    cases hf
    exact K0
  have hf := pm_ie hf c28
  by_cases c29 : x1 = 16
  · have hf := pm_it hf c29
    cases hf
    exact K0
  have hf := pm_ie hf c29
  cases hf
  exact K0
set_option maxHeartbeats 4000000 in
set_option maxRecDepth 100000 in
theorem kpX8_whole32 {h : pm_H} {a0 : Nat} {p1 : Int32} {p2 : Int32} {p3 : Int32} {r : (Int64 × pm_H)} (hf : fX8_whole32 h a0 p1 p2 p3 = some r) : pm_S3 r.2 h := by
  unfold fX8_whole32 at hf
  have K0 := pm_S3.rf h
  by_cases c1 : p1 < 6
  · have hf := pm_it hf c1
    exact pm_S3.trans (kpX8_whole32_b20 hf) K0
  · have hf := pm_ie hf c1
    by_cases c2 : 9 < p1
    · have hf := pm_it hf c2
      exact pm_S3.trans (kpX8_whole32_b20 hf) K0
    · have hf := pm_ie hf c2
      obtain ⟨k3, hf⟩ := pm_if hf
      obtain ⟨v4, e5, hf⟩ := pm_bd hf
      have K6 := pm_S3.trans (kpX8_divide32 e5) K0
      cases hf
      exact K6
set_option maxHeartbeats 4000000 in
set_option maxRecDepth 100000 in
theorem kpX9_exceedLimit {h : pm_H} {a0 : Nat} {r : pm_H} (hf : fX9_exceedLimit h a0 = some r) : pm_S3 r h := by
  unfold fX9_exceedLimit at hf
  have K0 := pm_S3.rf h
  obtain ⟨k1, hf⟩ := pm_if hf
  by_cases c2 : 0 ≤ (pm_I h a0 5)
  · have hf := pm_it hf c2
    cases hf
    exact K0
  · have hf := pm_ie hf c2
    obtain ⟨y3, e4, hf⟩ := pm_lt hf
    cases hf
    exact K0
set_option maxHeartbeats 4000000 in
set_option maxRecDepth 100000 in
theorem kpX9_fail {h : pm_H} {a0 : Nat} {p1 : Int32} {p2 : Int32} {r : pm_H} (hf : fX9_fail h a0 p1 p2 = some r) : pm_S3 r h := by
  unfold fX9_fail at hf
  have K0 := pm_S3.rf h
  obtain ⟨k1, hf⟩ := pm_if hf
  by_cases c2 : (pm_I h a0 3) = 0
  · have hf := pm_it hf c2
    cases hf
    exact K0
  · have hf := pm_ie hf c2
    cases hf
    exact K0
set_option maxHeartbeats 4000000 in
set_option maxRecDepth 100000 in
theorem kpX9_next {h : pm_H} {a0 : Nat} {r : (Int32 × pm_H)} (hf : fX9_next h a0 = some r) : pm_S3 r.2 h := by
  unfold fX9_next at hf
  have K0 := pm_S3.rf h
  obtain ⟨k1, hf⟩ := pm_if hf
  by_cases c2 : (pm_I h a0 3) = 0
  · have hf := pm_it hf c2
    by_cases c3 : (pm_I h a0 1) < 0
    · have hf := pm_it hf c3
      obtain ⟨y4, e5, hf⟩ := pm_lt hf
      cases hf
      exact K0
    · have hf := pm_ie hf c3
      by_cases c6 : (pm_I h a0 2) ≤ (pm_I h a0 1)
      · have hf := pm_it hf c6
        obtain ⟨y7, e8, hf⟩ := pm_lt hf
        cases hf
        exact K0
      · have hf := pm_ie hf c6
        obtain ⟨v9, e10, hf⟩ := pm_bd hf
        obtain ⟨k11, hf⟩ := pm_if hf
        obtain ⟨v12, e13, hf⟩ := pm_bd hf
        obtain ⟨k14, hf⟩ := pm_if hf
        by_cases c15 : (pm_I h a0 1) < (Int32.ofNat (pm_ln h v12))
        · have hf := pm_it hf c15
          obtain ⟨y16, e17, hf⟩ := pm_lt hf
          obtain ⟨y18, e19, hf⟩ := pm_lt hf
          obtain ⟨u20, hf⟩ := pm_if hf
          cases hf
          exact K0
        · have hf := pm_ie hf c15
          obtain ⟨y21, e22, hf⟩ := pm_lt hf
          cases hf
          exact K0
  · have hf := pm_ie hf c2
    cases hf
    exact K0
set_option maxHeartbeats 4000000 in
set_option maxRecDepth 100000 in
theorem kpX9_nextUpTo {h : pm_H} {a0 : Nat} {p1 : Int32} {r : (Int32 × pm_H)} (hf : fX9_nextUpTo h a0 p1 = some r) : pm_S3 r.2 h := by
  unfold fX9_nextUpTo at hf
  have K0 := pm_S3.rf h
  obtain ⟨k1, hf⟩ := pm_if hf
  obtain ⟨v2, e3, hf⟩ := pm_bd hf
  have K4 := pm_S3.trans (kpX9_next e3) K0
  by_cases c5 : v2.1 ≤ p1
  · have hf := pm_it hf c5
    cases hf
    exact K4
  · have hf := pm_ie hf c5
    obtain ⟨k6, hf⟩ := pm_if hf
    obtain ⟨v7, e8, hf⟩ := pm_bd hf
    have K9 := pm_S3.trans (kpX9_fail e8) K4
    cases hf
    exact K9
set_option maxHeartbeats 4000000 in
set_option maxRecDepth 100000 in
theorem kpX9_open {h : pm_H} {a0 : Nat} {p1 : Nat} {p2 : Int32} {r : pm_H} (hf : fX9_open h a0 p1 p2 = some r) : pm_S3 r h := by
  unfold fX9_open at hf
  have K0 := pm_S3.rf h
  obtain ⟨k1, hf⟩ := pm_if hf
  obtain ⟨k2, hf⟩ := pm_if hf
  obtain ⟨v3, e4, hf⟩ := pm_bd hf
  obtain ⟨k5, hf⟩ := pm_if hf
  obtain ⟨y6, e7, hf⟩ := pm_lt hf
  cases hf
  exact K0
set_option maxHeartbeats 4000000 in
set_option maxRecDepth 100000 in
theorem kpX9_referenceType {h : pm_H} {a0 : Nat} {r : (Int32 × pm_H)} (hf : fX9_referenceType h a0 = some r) : pm_S3 r.2 h := by
  unfold fX9_referenceType at hf
  have K0 := pm_S3.rf h
  obtain ⟨k1, hf⟩ := pm_if hf
  obtain ⟨v2, e3, hf⟩ := pm_bd hf
  have K4 := pm_S3.trans (kpX9_next e3) K0
  obtain ⟨v5, e6, hf⟩ := pm_lt hf
  by_cases c7 : v5 = 0
  · have hf := pm_it hf c7
    obtain ⟨k8, hf⟩ := pm_if hf
    obtain ⟨v9, e10, hf⟩ := pm_bd hf
    have K11 := pm_S3.trans (kpX9_fail e10) K4
    cases hf
    exact K11
  · have hf := pm_ie hf c7
    cases hf
    exact K4
set_option maxHeartbeats 4000000 in
set_option maxRecDepth 100000 in
theorem kpX9_skip {h : pm_H} {a0 : Nat} {p1 : Int64} {r : pm_H} (hf : fX9_skip h a0 p1 = some r) : pm_S3 r h := by
  unfold fX9_skip at hf
  have K0 := pm_S3.rf h
  obtain ⟨k1, hf⟩ := pm_if hf
  by_cases c2 : (pm_I h a0 3) = 0
  · have hf := pm_it hf c2
    by_cases c3 : p1 ≤ (((pm_I h a0 2) - (pm_I h a0 1)).toInt64)
    · have hf := pm_it hf c3
      by_cases c4 : (pm_I h a0 3) = 0
      · have hf := pm_it hf c4
        obtain ⟨y5, e6, hf⟩ := pm_lt hf
        cases hf
        exact K0
      · have hf := pm_ie hf c4
        cases hf
        exact K0
    · have hf := pm_ie hf c3
      obtain ⟨v7, e8, hf⟩ := pm_bd hf
      have K9 := pm_S3.trans (kpX9_fail e8) K0
      obtain ⟨k10, hf⟩ := pm_if hf
      by_cases c11 : (pm_I v7 a0 3) = 0
      · have hf := pm_it hf c11
        obtain ⟨y12, e13, hf⟩ := pm_lt hf
        cases hf
        exact K9
      · have hf := pm_ie hf c11
        cases hf
        exact K9
  · have hf := pm_ie hf c2
    by_cases c14 : (pm_I h a0 3) = 0
    · have hf := pm_it hf c14
      obtain ⟨y15, e16, hf⟩ := pm_lt hf
      cases hf
      exact K0
    · have hf := pm_ie hf c14
      cases hf
      exact K0
set_option maxHeartbeats 4000000 in
set_option maxRecDepth 100000 in
theorem kpX9_valueType {h : pm_H} {a0 : Nat} {r : (Int32 × pm_H)} (hf : fX9_valueType h a0 = some r) : pm_S3 r.2 h := by
  unfold fX9_valueType at hf
  have K0 := pm_S3.rf h
  obtain ⟨k1, hf⟩ := pm_if hf
  obtain ⟨v2, e3, hf⟩ := pm_bd hf
  have K4 := pm_S3.trans (kpX9_next e3) K0
  obtain ⟨v5, e6, hf⟩ := pm_lt hf
  by_cases c7 : v5 = 0
  · have hf := pm_it hf c7
    obtain ⟨k8, hf⟩ := pm_if hf
    obtain ⟨v9, e10, hf⟩ := pm_bd hf
    have K11 := pm_S3.trans (kpX9_fail e10) K4
    cases hf
    exact K11
  · have hf := pm_ie hf c7
    cases hf
    exact K4
set_option maxHeartbeats 4000000 in
set_option maxRecDepth 100000 in
theorem kpX10_countFrame {h : pm_H} {a0 : Nat} {p1 : Int32} {p2 : Int32} {r : (Int32 × pm_H)} (hf : fX10_countFrame h a0 p1 p2 = some r) : pm_S3 r.2 h := by
  unfold fX10_countFrame at hf
  have K0 := pm_S3.rf h
  by_cases c1 : p1 < 0
  · have hf := pm_it hf c1
    cases hf
    exact K0
  · have hf := pm_ie hf c1
    by_cases c2 : p1 < 512
    · have hf := pm_it hf c2
      obtain ⟨k3, hf⟩ := pm_if hf
      obtain ⟨v4, e5, hf⟩ := pm_bd hf
      obtain ⟨k6, hf⟩ := pm_if hf
      obtain ⟨u7, hf⟩ := pm_if hf
      obtain ⟨y8, e9, hf⟩ := pm_lt hf
      obtain ⟨u10, hf⟩ := pm_if hf
      obtain ⟨v11, e12, hf⟩ := pm_bd hf
      obtain ⟨k13, hf⟩ := pm_if hf
      obtain ⟨u14, hf⟩ := pm_if hf
      by_cases c15 : (pm_I (pm_setI h v4 p1.toNatClampNeg y8) v11 p1.toNatClampNeg) = 0
      · have hf := pm_it hf c15
        by_cases c16 : p2 ≤ 0
        · have hf := pm_it hf c16
          obtain ⟨u17, hf⟩ := pm_if hf
          obtain ⟨u18, hf⟩ := pm_if hf
          cases hf
          exact K0
        · have hf := pm_ie hf c16
          obtain ⟨u19, hf⟩ := pm_if hf
          by_cases c20 : (pm_I (pm_setI h v4 p1.toNatClampNeg y8) v4 p1.toNatClampNeg) < p2
          · have hf := pm_it hf c20
            obtain ⟨u21, hf⟩ := pm_if hf
            obtain ⟨u22, hf⟩ := pm_if hf
            cases hf
            exact K0
          · have hf := pm_ie hf c20
            obtain ⟨u23, hf⟩ := pm_if hf
            obtain ⟨y24, e25, hf⟩ := pm_lt hf
            obtain ⟨u26, hf⟩ := pm_if hf
            obtain ⟨u27, hf⟩ := pm_if hf
            cases hf
            exact K0
      · have hf := pm_ie hf c15
        obtain ⟨u28, hf⟩ := pm_if hf
        obtain ⟨u29, hf⟩ := pm_if hf
        cases hf
        exact K0
    · have hf := pm_ie hf c2
      cases hf
      exact K0
set_option maxHeartbeats 4000000 in
set_option maxRecDepth 100000 in
theorem kpX11_setEntry_b36 {h : pm_H} {x0 : Nat} {x1 : Int32} {x2 : Int64} {x4 : Int32} {r : pm_H} (hf : fX11_setEntry_b36 h x0 x1 x2 x4 = some r) : pm_S3 r h := by
  unfold fX11_setEntry_b36 at hf
  have K0 := pm_S3.rf h
  by_cases c19 : (0 : Int32) = (0 : Int32)
  · have hf := pm_it hf c19
    cases hf
    exact K0
  · have hf := pm_ie hf c19
    obtain ⟨k20, hf⟩ := pm_if hf
    obtain ⟨v21, e22, hf⟩ := pm_bd hf
    obtain ⟨k23, hf⟩ := pm_if hf
    obtain ⟨u24, hf⟩ := pm_if hf
    obtain ⟨v25, e26, hf⟩ := pm_bd hf
    obtain ⟨k27, hf⟩ := pm_if hf
    obtain ⟨u28, hf⟩ := pm_if hf
    cases hf
    exact K0
set_option maxHeartbeats 4000000 in
set_option maxRecDepth 100000 in
theorem kpX11_setEntry {h : pm_H} {a0 : Nat} {p1 : Int32} {p2 : Int64} {p3 : Int32} {r : pm_H} (hf : fX11_setEntry h a0 p1 p2 p3 = some r) : pm_S3 r h := by
  unfold fX11_setEntry at hf
  have K0 := pm_S3.rf h
  by_cases c1 : p1 < 0
  · have hf := pm_it hf c1
    exact pm_S3.trans (kpX11_setEntry_b36 hf) K0
  · have hf := pm_ie hf c1
    obtain ⟨k2, hf⟩ := pm_if hf
    obtain ⟨v3, e4, hf⟩ := pm_bd hf
    obtain ⟨k5, hf⟩ := pm_if hf
    by_cases c6 : (Int32.ofNat (pm_ln h v3)) ≤ p1
    · have hf := pm_it hf c6
      exact pm_S3.trans (kpX11_setEntry_b36 hf) K0
    · have hf := pm_ie hf c6
      by_cases c7 : p2 < 0
      · have hf := pm_it hf c7
        exact pm_S3.trans (kpX11_setEntry_b36 hf) K0
      · have hf := pm_ie hf c7
        obtain ⟨u8, hf⟩ := pm_if hf
        obtain ⟨v9, e10, hf⟩ := pm_bd hf
        obtain ⟨k11, hf⟩ := pm_if hf
        by_cases c12 : ((Int32.ofNat (pm_ln h v9)).toInt64) ≤ p2
        · have hf := pm_it hf c12
          exact pm_S3.trans (kpX11_setEntry_b36 hf) K0
        · have hf := pm_ie hf c12
          by_cases c13 : (1 : Int32) = (0 : Int32)
          · have hf := pm_it hf c13
            cases hf
            exact K0
          · have hf := pm_ie hf c13
            obtain ⟨u14, hf⟩ := pm_if hf
            obtain ⟨v15, e16, hf⟩ := pm_bd hf
            obtain ⟨k17, hf⟩ := pm_if hf
            obtain ⟨u18, hf⟩ := pm_if hf
            cases hf
            exact K0
set_option maxHeartbeats 4000000 in
set_option maxRecDepth 100000 in
theorem kpX12_argument {h : pm_H} {a0 : Nat} {p1 : Int64} {r : (Int32 × pm_H)} (hf : fX12_argument h a0 p1 = some r) : pm_S3 r.2 h := by
  unfold fX12_argument at hf
  have K0 := pm_S3.rf h
  obtain ⟨k1, hf⟩ := pm_if hf
  obtain ⟨v2, e3, hf⟩ := pm_bd hf
  obtain ⟨k4, hf⟩ := pm_if hf
  by_cases c5 : (pm_I h a0 15) < (Int32.ofNat (pm_ln h v2))
  · have hf := pm_it hf c5
    obtain ⟨u6, hf⟩ := pm_if hf
    obtain ⟨y7, e8, hf⟩ := pm_lt hf
    cases hf
    exact K0
  · have hf := pm_ie hf c5
    cases hf
    exact K0
set_option maxHeartbeats 4000000 in
set_option maxRecDepth 100000 in
theorem kpX12_give {h : pm_H} {a0 : Nat} {r : (Int32 × pm_H)} (hf : fX12_give h a0 = some r) : pm_S3 r.2 h := by
  unfold fX12_give at hf
  have K0 := pm_S3.rf h
  obtain ⟨k1, hf⟩ := pm_if hf
  obtain ⟨v2, e3, hf⟩ := pm_bd hf
  obtain ⟨k4, hf⟩ := pm_if hf
  obtain ⟨v5, e6, hf⟩ := pm_bd hf
  by_cases c7 : v5 = 0
  · have hf := pm_it hf c7
    cases hf
    exact K0
  · have hf := pm_ie hf c7
    obtain ⟨v8, e9, hf⟩ := pm_bd hf
    have K10 := pm_S3.trans (kpX5_stop e9) K0
    cases hf
    exact K10
set_option maxHeartbeats 4000000 in
set_option maxRecDepth 100000 in
theorem kpX12_setItem {h : pm_H} {p1 : Nat} {p2 : Int32} {p3 : Int32} {r : pm_H} (hf : fX12_setItem h p1 p2 p3 = some r) : pm_S3 r h := by
  unfold fX12_setItem at hf
  have K0 := pm_S3.rf h
  by_cases c1 : p2 < 0
  · have hf := pm_it hf c1
    cases hf
    exact K0
  · have hf := pm_ie hf c1
    obtain ⟨k2, hf⟩ := pm_if hf
    by_cases c3 : (Int32.ofNat (pm_ln h p1)) ≤ p2
    · have hf := pm_it hf c3
      cases hf
      exact K0
    · have hf := pm_ie hf c3
      obtain ⟨u4, hf⟩ := pm_if hf
      cases hf
      exact K0
set_option maxHeartbeats 4000000 in
set_option maxRecDepth 100000 in
theorem kpX12_setItem_ {h : pm_H} {p1 : Nat} {p2 : Int32} {p3 : Int64} {r : pm_H} (hf : fX12_setItem_ h p1 p2 p3 = some r) : pm_S3 r h := by
  unfold fX12_setItem_ at hf
  have K0 := pm_S3.rf h
  by_cases c1 : p2 < 0
  · have hf := pm_it hf c1
    cases hf
    exact K0
  · have hf := pm_ie hf c1
    obtain ⟨k2, hf⟩ := pm_if hf
    by_cases c3 : (Int32.ofNat (pm_ln h p1)) ≤ p2
    · have hf := pm_it hf c3
      cases hf
      exact K0
    · have hf := pm_ie hf c3
      obtain ⟨u4, hf⟩ := pm_if hf
      cases hf
      exact K0
set_option maxHeartbeats 4000000 in
set_option maxRecDepth 100000 in
theorem kpX12_tier {h : pm_H} {a0 : Nat} {p1 : Int32} {r : (Int32 × pm_H)} (hf : fX12_tier h a0 p1 = some r) : pm_S3 r.2 h := by
  unfold fX12_tier at hf
  have K0 := pm_S3.rf h
  by_cases c1 : 0 ≤ p1
  · have hf := pm_it hf c1
    obtain ⟨k2, hf⟩ := pm_if hf
    obtain ⟨v3, e4, hf⟩ := pm_bd hf
    obtain ⟨k5, hf⟩ := pm_if hf
    obtain ⟨y6, e7, hf⟩ := pm_lt hf
    cases hf
    exact K0
  · have hf := pm_ie hf c1
    cases hf
    exact K0
set_option maxHeartbeats 4000000 in
set_option maxRecDepth 100000 in
theorem klX12_write {r : pm_H} : ∀ n : Nat, (∀ (x0 : Nat) (x1 : Int32) (x2 : Int32) (x3 : Int32) (h : pm_H), pm_iter sX12_write n (x0, x1, x2, x3, h) = some r → pm_S3 r h) := by
  intro n
  induction n with
  | zero => exact fun _ _ _ _ _ hf => (by cases hf)
  | succ n ih =>
    refine fun x0 x1 x2 x3 h hf => ?_
    obtain ⟨y, hf, hi⟩ := pm_iter_s hf
    have hf : tX12_write_18 x0 x1 x2 x3 h = some y := hf
    unfold tX12_write_18 at hf
    have K0 := pm_S3.rf h
    by_cases c7 : 4 ≤ x3
    · have hf := pm_it hf c7
      cases hf
      cases hi
      exact K0
    · have hf := pm_ie hf c7
      obtain ⟨k8, hf⟩ := pm_if hf
      obtain ⟨v9, e10, hf⟩ := pm_bd hf
      obtain ⟨y11, e12, hf⟩ := pm_lt hf
      obtain ⟨k13, hf⟩ := pm_if hf
      obtain ⟨u14, hf⟩ := pm_if hf
      obtain ⟨y15, e16, hf⟩ := pm_lt hf
      cases hf
      exact pm_S3.trans (ih x0 x1 x2 y15 (pm_setI h v9 ((x2 + x3).toNatClampNeg) (vp_nar .byte y11)) hi) K0
set_option maxHeartbeats 4000000 in
set_option maxRecDepth 100000 in
theorem kpX12_write {h : pm_H} {a0 : Nat} {p1 : Int32} {p2 : Int32} {r : pm_H} (hf : fX12_write h a0 p1 p2 = some r) : pm_S3 r h := by
  unfold fX12_write at hf
  have K0 := pm_S3.rf h
  by_cases c1 : p2 < 0
  · have hf := pm_it hf c1
    cases hf
    exact K0
  · have hf := pm_ie hf c1
    obtain ⟨k2, hf⟩ := pm_if hf
    obtain ⟨v3, e4, hf⟩ := pm_bd hf
    obtain ⟨k5, hf⟩ := pm_if hf
    by_cases c6 : p2 ≤ ((Int32.ofNat (pm_ln h v3)) - 4)
    · have hf := pm_it hf c6
      obtain ⟨n, hn⟩ := pm_lim_iter hf
      exact pm_S3.trans ((klX12_write n) a0 p1 p2 0 h hn) K0
    · have hf := pm_ie hf c6
      cases hf
      exact K0
set_option maxHeartbeats 4000000 in
set_option maxRecDepth 100000 in
theorem kpX15_read_b141 {h : pm_H} {x0 : Nat} {x1 : Int32} {x8 : Int32} {s0 : Int64} {s1 : Nat} {r : pm_H} (hf : fX15_read_b141 h x0 x1 x8 s0 s1 = some r) : pm_S3 r h := by
  unfold fX15_read_b141 at hf
  have K0 := pm_S3.rf h
  obtain ⟨k17, hf⟩ := pm_if hf
  by_cases c18 : x8 = 0
  · have hf := pm_it hf c18
    by_cases c19 : x1 = 2
    · have hf := pm_it hf c19
      obtain ⟨y20, e21, hf⟩ := pm_lt hf
      obtain ⟨k22, hf⟩ := pm_if hf
      cases hf
      exact K0
    · have hf := pm_ie hf c19
      obtain ⟨y23, e24, hf⟩ := pm_lt hf
      obtain ⟨k25, hf⟩ := pm_if hf
      cases hf
      exact K0
  · have hf := pm_ie hf c18
    by_cases c26 : x1 = 2
    · have hf := pm_it hf c26
      obtain ⟨y27, e28, hf⟩ := pm_lt hf
      obtain ⟨k29, hf⟩ := pm_if hf
      cases hf
      exact K0
    · have hf := pm_ie hf c26
      obtain ⟨y30, e31, hf⟩ := pm_lt hf
      obtain ⟨k32, hf⟩ := pm_if hf
      cases hf
      exact K0
set_option maxHeartbeats 4000000 in
set_option maxRecDepth 100000 in
theorem kpX15_read_b120 {h : pm_H} {x0 : Nat} {x1 : Int32} {x4 : Int32} {x6 : Int64} {x8 : Int32} {s0 : Int32} {s1 : Nat} {r : pm_H} (hf : fX15_read_b120 h x0 x1 x4 x6 x8 s0 s1 = some r) : pm_S3 r h := by
  unfold fX15_read_b120 at hf
  have K0 := pm_S3.rf h
  obtain ⟨k15, hf⟩ := pm_if hf
  by_cases c16 : x8 = 0
  · have hf := pm_it hf c16
    exact pm_S3.trans (kpX15_read_b141 hf) K0
  · have hf := pm_ie hf c16
    exact pm_S3.trans (kpX15_read_b141 hf) K0
set_option maxHeartbeats 4000000 in
set_option maxRecDepth 100000 in
theorem kpX15_read_b77 {h : pm_H} {x0 : Nat} {x1 : Int32} {x4 : Int32} {x5 : Int32} {x6 : Int64} {x8 : Int32} {s0 : Int32} {s1 : Nat} {r : pm_H} (hf : fX15_read_b77 h x0 x1 x4 x5 x6 x8 s0 s1 = some r) : pm_S3 r h := by
  unfold fX15_read_b77 at hf
  have K0 := pm_S3.rf h
  obtain ⟨k9, hf⟩ := pm_if hf
  obtain ⟨u10, hf⟩ := pm_if hf
  by_cases c11 : x8 = x5
  · have hf := pm_it hf c11
    by_cases c12 : x6 = 0
    · have hf := pm_it hf c12
      exact pm_S3.trans (kpX15_read_b120 hf) K0
    · have hf := pm_ie hf c12
      exact pm_S3.trans (kpX15_read_b120 hf) K0
  · have hf := pm_ie hf c11
    by_cases c13 : x8 = 0
    · have hf := pm_it hf c13
      by_cases c14 : x6 = 0
      · have hf := pm_it hf c14
        exact pm_S3.trans (kpX15_read_b120 hf) K0
      · have hf := pm_ie hf c14
        exact pm_S3.trans (kpX15_read_b120 hf) K0
    · have hf := pm_ie hf c13
      exact pm_S3.trans (kpX15_read_b120 hf) K0
set_option maxHeartbeats 4000000 in
set_option maxRecDepth 100000 in
theorem kpX15_read_b64 {h : pm_H} {x0 : Nat} {x1 : Int32} {x4 : Int32} {x5 : Int32} {x6 : Int64} {x8 : Int32} {s0 : Int32} {s1 : Int64} {s2 : Nat} {r : pm_H} (hf : fX15_read_b64 h x0 x1 x4 x5 x6 x8 s0 s1 s2 = some r) : pm_S3 r h := by
  unfold fX15_read_b64 at hf
  have K0 := pm_S3.rf h
  by_cases c8 : ((s1 >>> (s0.toInt64 &&& 63)) &&& 1) = 1
  · have hf := pm_it hf c8
    exact pm_S3.trans (kpX15_read_b77 hf) K0
  · have hf := pm_ie hf c8
    exact pm_S3.trans (kpX15_read_b77 hf) K0
set_option maxHeartbeats 4000000 in
set_option maxRecDepth 100000 in
theorem kpX15_read_b28 {h : pm_H} {x0 : Nat} {x1 : Int32} {x2 : Int64} {x4 : Int32} {s0 : Int32} {r : pm_H} (hf : fX15_read_b28 h x0 x1 x2 x4 s0 = some r) : pm_S3 r h := by
  unfold fX15_read_b28 at hf
  have K0 := pm_S3.rf h
  obtain ⟨y3, e4, hf⟩ := pm_lt hf
  obtain ⟨y5, e6, hf⟩ := pm_lt hf
  by_cases c7 : x1 = 2
  · have hf := pm_it hf c7
    exact pm_S3.trans (kpX15_read_b64 hf) K0
  · have hf := pm_ie hf c7
    exact pm_S3.trans (kpX15_read_b64 hf) K0
set_option maxHeartbeats 4000000 in
set_option maxRecDepth 100000 in
theorem kpX15_read_b12 {h : pm_H} {x0 : Nat} {x1 : Int32} {x2 : Int64} {s0 : Int32} {r : pm_H} (hf : fX15_read_b12 h x0 x1 x2 s0 = some r) : pm_S3 r h := by
  unfold fX15_read_b12 at hf
  have K0 := pm_S3.rf h
  by_cases c2 : x1 = 2
  · have hf := pm_it hf c2
    exact pm_S3.trans (kpX15_read_b28 hf) K0
  · have hf := pm_ie hf c2
    exact pm_S3.trans (kpX15_read_b28 hf) K0
set_option maxHeartbeats 4000000 in
set_option maxRecDepth 100000 in
theorem kpX15_read {h : pm_H} {a0 : Nat} {p1 : Int32} {p2 : Int64} {r : pm_H} (hf : fX15_read h a0 p1 p2 = some r) : pm_S3 r h := by
  unfold fX15_read at hf
  have K0 := pm_S3.rf h
  by_cases c1 : p1 = 2
  · have hf := pm_it hf c1
    exact pm_S3.trans (kpX15_read_b12 hf) K0
  · have hf := pm_ie hf c1
    exact pm_S3.trans (kpX15_read_b12 hf) K0
set_option maxHeartbeats 4000000 in
set_option maxRecDepth 100000 in
theorem kpX16_argument {h : pm_H} {a0 : Nat} {p1 : Int64} {r : (Int32 × pm_H)} (hf : fX16_argument h a0 p1 = some r) : pm_S3 r.2 h := by
  unfold fX16_argument at hf
  have K0 := pm_S3.rf h
  obtain ⟨k1, hf⟩ := pm_if hf
  by_cases c2 : (pm_I h a0 81) = 16
  · have hf := pm_it hf c2
    cases hf
    exact K0
  · have hf := pm_ie hf c2
    obtain ⟨v3, e4, hf⟩ := pm_bd hf
    obtain ⟨k5, hf⟩ := pm_if hf
    obtain ⟨u6, hf⟩ := pm_if hf
    obtain ⟨y7, e8, hf⟩ := pm_lt hf
    cases hf
    exact K0
set_option maxHeartbeats 4000000 in
set_option maxRecDepth 100000 in
theorem klX16_branches {r : pm_H} : ∀ n : Nat, (∀ (x0 : Nat) (x2 : Int32) (x3 : Int32) (x4 : Int32) (x5 : Int32) (h : pm_H), pm_iter sX16_branches n (x0, x2, x3, x4, x5, h) = some r → pm_S3 r h) := by
  intro n
  induction n with
  | zero => exact fun _ _ _ _ _ _ hf => (by cases hf)
  | succ n ih =>
    refine fun x0 x2 x3 x4 x5 h hf => ?_
    obtain ⟨y, hf, hi⟩ := pm_iter_s hf
    have hf : tX16_branches_27 x0 x2 x3 x4 x5 h = some y := hf
    unfold tX16_branches_27 at hf
    have K0 := pm_S3.rf h
    by_cases c12 : x3 ≤ x5
    · have hf := pm_it hf c12
      obtain ⟨k13, hf⟩ := pm_if hf
      obtain ⟨v14, e15, hf⟩ := pm_bd hf
      obtain ⟨k16, hf⟩ := pm_if hf
      obtain ⟨u17, hf⟩ := pm_if hf
      obtain ⟨y18, e19, hf⟩ := pm_lt hf
      obtain ⟨v20, e21, hf⟩ := pm_bd hf
      obtain ⟨k22, hf⟩ := pm_if hf
      obtain ⟨u23, hf⟩ := pm_if hf
      obtain ⟨y24, e25, hf⟩ := pm_lt hf
      obtain ⟨v26, e27, hf⟩ := pm_bd hf
      obtain ⟨k28, hf⟩ := pm_if hf
      obtain ⟨u29, hf⟩ := pm_if hf
      by_cases c30 : (pm_I (pm_setI (pm_setI h x0 93 y18) x0 94 y24) v26 x2.toNatClampNeg) = 0
      · have hf := pm_it hf c30
        cases hf
        cases hi
        exact K0
      · have hf := pm_ie hf c30
        obtain ⟨y31, e32, hf⟩ := pm_lt hf
        cases hf
        cases hi
        exact K0
    · have hf := pm_ie hf c12
      obtain ⟨k33, hf⟩ := pm_if hf
      obtain ⟨v34, e35, hf⟩ := pm_bd hf
      obtain ⟨v36, e37, hf⟩ := pm_bd hf
      obtain ⟨k38, hf⟩ := pm_if hf
      obtain ⟨u39, hf⟩ := pm_if hf
      obtain ⟨y40, e41, hf⟩ := pm_lt hf
      obtain ⟨k42, hf⟩ := pm_if hf
      obtain ⟨u43, hf⟩ := pm_if hf
      obtain ⟨y44, e45, hf⟩ := pm_lt hf
      obtain ⟨u46, hf⟩ := pm_if hf
      obtain ⟨y47, e48, hf⟩ := pm_lt hf
      cases hf
      exact pm_S3.trans (ih x0 x2 x3 x4 y47 (pm_setL h v34 (((pm_I h v36 x2.toNatClampNeg) + x5).toNatClampNeg) y44) hi) K0
set_option maxHeartbeats 4000000 in
set_option maxRecDepth 100000 in
theorem kpX16_branches {h : pm_H} {a0 : Nat} {p1 : Int32} {r : pm_H} (hf : fX16_branches h a0 p1 = some r) : pm_S3 r h := by
  unfold fX16_branches at hf
  have K0 := pm_S3.rf h
  obtain ⟨k1, hf⟩ := pm_if hf
  obtain ⟨y2, e3, hf⟩ := pm_lt hf
  obtain ⟨v4, e5, hf⟩ := pm_bd hf
  obtain ⟨k6, hf⟩ := pm_if hf
  obtain ⟨u7, hf⟩ := pm_if hf
  obtain ⟨y8, e9, hf⟩ := pm_lt hf
  obtain ⟨y10, e11, hf⟩ := pm_lt hf
  obtain ⟨n, hn⟩ := pm_lim_iter hf
  exact pm_S3.trans ((klX16_branches n) a0 y2 y8 y10 0 h hn) K0
set_option maxHeartbeats 4000000 in
set_option maxRecDepth 100000 in
theorem klX16_bytesAt {r : (Int64 × pm_H)} : ∀ n : Nat, (∀ (x0 : Nat) (x1 : Int32) (x2 : Int64) (x4 : Int32) (h : pm_H), pm_iter sX16_bytesAt n (x0, x1, x2, x4, h) = some r → pm_S3 r.2 h) := by
  intro n
  induction n with
  | zero => exact fun _ _ _ _ _ hf => (by cases hf)
  | succ n ih =>
    refine fun x0 x1 x2 x4 h hf => ?_
    obtain ⟨y, hf, hi⟩ := pm_iter_s hf
    have hf : tX16_bytesAt_5 x0 x1 x2 x4 h = some y := hf
    unfold tX16_bytesAt_5 at hf
    have K0 := pm_S3.rf h
    by_cases c1 : x1 ≤ x4
    · have hf := pm_it hf c1
      obtain ⟨k2, hf⟩ := pm_if hf
      obtain ⟨y3, e4, hf⟩ := pm_lt hf
      cases hf
      cases hi
      exact K0
    · have hf := pm_ie hf c1
      obtain ⟨k5, hf⟩ := pm_if hf
      obtain ⟨v6, e7, hf⟩ := pm_bd hf
      obtain ⟨k8, hf⟩ := pm_if hf
      obtain ⟨v9, e10, hf⟩ := pm_bd hf
      obtain ⟨y11, e12, hf⟩ := pm_lt hf
      obtain ⟨y13, e14, hf⟩ := pm_lt hf
      cases hf
      exact pm_S3.trans (ih x0 x1 y11 y13 h hi) K0
set_option maxHeartbeats 4000000 in
set_option maxRecDepth 100000 in
theorem kpX16_bytesAt {h : pm_H} {a0 : Nat} {p1 : Int32} {r : (Int64 × pm_H)} (hf : fX16_bytesAt h a0 p1 = some r) : pm_S3 r.2 h := by
  unfold fX16_bytesAt at hf
  have K0 := pm_S3.rf h
  obtain ⟨n, hn⟩ := pm_lim_iter hf
  exact pm_S3.trans ((klX16_bytesAt n) a0 p1 0 0 h hn) K0
set_option maxHeartbeats 4000000 in
set_option maxRecDepth 100000 in
theorem klX16_copiesElement {r : (Int32 × pm_H)} : ∀ n : Nat, (∀ (x0 : Nat) (x1 : Int32) (x2 : Int32) (x3 : Int32) (x4 : Int64) (x6 : Int64) (x8 : Int64) (x10 : Int32) (h : pm_H), pm_iter sX16_copiesElement n (x0, x1, x2, x3, x4, x6, x8, x10, h) = some r → pm_S3 r.2 h) := by
  intro n
  induction n with
  | zero => exact fun _ _ _ _ _ _ _ _ _ hf => (by cases hf)
  | succ n ih =>
    refine fun x0 x1 x2 x3 x4 x6 x8 x10 h hf => ?_
    obtain ⟨y, hf, hi⟩ := pm_iter_s hf
    have hf : tX16_copiesElement_42 x0 x1 x2 x3 x4 x6 x8 x10 h = some y := hf
    unfold tX16_copiesElement_42 at hf
    have K0 := pm_S3.rf h
    by_cases c14 : x8 ≤ x10.toInt64
    · have hf := pm_it hf c14
      cases hf
      cases hi
      exact K0
    · have hf := pm_ie hf c14
      obtain ⟨k15, hf⟩ := pm_if hf
      obtain ⟨v16, e17, hf⟩ := pm_bd hf
      obtain ⟨v18, e19, hf⟩ := pm_bd hf
      obtain ⟨v20, e21, hf⟩ := pm_bd hf
      obtain ⟨y22, e23, hf⟩ := pm_lt hf
      obtain ⟨k24, hf⟩ := pm_if hf
      obtain ⟨u25, hf⟩ := pm_if hf
      obtain ⟨y26, e27, hf⟩ := pm_lt hf
      obtain ⟨k28, hf⟩ := pm_if hf
      obtain ⟨u29, hf⟩ := pm_if hf
      obtain ⟨y30, e31, hf⟩ := pm_lt hf
      obtain ⟨k32, hf⟩ := pm_if hf
      obtain ⟨u33, hf⟩ := pm_if hf
      obtain ⟨y34, e35, hf⟩ := pm_lt hf
      cases hf
      exact pm_S3.trans (ih x0 x1 x2 x3 x4 x6 x8 y34 (pm_setI h v16 ((((1024 * x3) + x4.toInt32) + x10).toNatClampNeg) y30) hi) K0
set_option maxHeartbeats 4000000 in
set_option maxRecDepth 100000 in
theorem kpX16_copiesElement {h : pm_H} {a0 : Nat} {p1 : Int32} {p2 : Int32} {p3 : Int32} {p4 : Int64} {p5 : Int64} {p6 : Int64} {r : (Int32 × pm_H)} (hf : fX16_copiesElement h a0 p1 p2 p3 p4 p5 p6 = some r) : pm_S3 r.2 h := by
  unfold fX16_copiesElement at hf
  have K0 := pm_S3.rf h
  obtain ⟨k1, hf⟩ := pm_if hf
  obtain ⟨v2, e3, hf⟩ := pm_bd hf
  obtain ⟨y4, e5, hf⟩ := pm_lt hf
  obtain ⟨k6, hf⟩ := pm_if hf
  obtain ⟨u7, hf⟩ := pm_if hf
  by_cases c8 : ((pm_I h v2 y4.toNatClampNeg).toInt64) < (p5 + p6)
  · have hf := pm_it hf c8
    cases hf
    exact K0
  · have hf := pm_ie hf c8
    obtain ⟨v9, e10, hf⟩ := pm_bd hf
    obtain ⟨k11, hf⟩ := pm_if hf
    obtain ⟨u12, hf⟩ := pm_if hf
    by_cases c13 : (p4 + p6) ≤ ((pm_I h v9 p3.toNatClampNeg).toInt64)
    · have hf := pm_it hf c13
      obtain ⟨n, hn⟩ := pm_lim_iter hf
      exact pm_S3.trans ((klX16_copiesElement n) a0 p1 p2 p3 p4 p5 p6 0 h hn) K0
    · have hf := pm_ie hf c13
      cases hf
      exact K0
set_option maxHeartbeats 4000000 in
set_option maxRecDepth 100000 in
theorem kpX16_counts {h : pm_H} {a0 : Nat} {p1 : Int32} {r : pm_H} (hf : fX16_counts h a0 p1 = some r) : pm_S3 r h := by
  unfold fX16_counts at hf
  have K0 := pm_S3.rf h
  obtain ⟨k1, hf⟩ := pm_if hf
  obtain ⟨v2, e3, hf⟩ := pm_bd hf
  obtain ⟨k4, hf⟩ := pm_if hf
  obtain ⟨u5, hf⟩ := pm_if hf
  obtain ⟨y6, e7, hf⟩ := pm_lt hf
  obtain ⟨u8, hf⟩ := pm_if hf
  obtain ⟨v9, e10, hf⟩ := pm_bd hf
  obtain ⟨k11, hf⟩ := pm_if hf
  obtain ⟨u12, hf⟩ := pm_if hf
  by_cases c13 : (pm_I (pm_setI h v2 p1.toNatClampNeg y6) v9 p1.toNatClampNeg) = 0
  · have hf := pm_it hf c13
    by_cases c14 : (pm_I (pm_setI h v2 p1.toNatClampNeg y6) a0 44) ≤ 0
    · have hf := pm_it hf c14
      cases hf
      exact K0
    · have hf := pm_ie hf c14
      obtain ⟨u15, hf⟩ := pm_if hf
      by_cases c16 : (pm_I (pm_setI h v2 p1.toNatClampNeg y6) v2 p1.toNatClampNeg) < (pm_I (pm_setI h v2 p1.toNatClampNeg y6) a0 44)
      · have hf := pm_it hf c16
        cases hf
        exact K0
      · have hf := pm_ie hf c16
        obtain ⟨u17, hf⟩ := pm_if hf
        obtain ⟨y18, e19, hf⟩ := pm_lt hf
        cases hf
        exact K0
  · have hf := pm_ie hf c13
    cases hf
    exact K0
set_option maxHeartbeats 4000000 in
set_option maxRecDepth 100000 in
theorem kpX16_declare {h : pm_H} {a0 : Nat} {p1 : Int64} {r : pm_H} (hf : fX16_declare h a0 p1 = some r) : pm_S3 r h := by
  unfold fX16_declare at hf
  have K0 := pm_S3.rf h
  by_cases c1 : 128 ≤ p1
  · have hf := pm_it hf c1
    cases hf
    exact K0
  · have hf := pm_ie hf c1
    obtain ⟨k2, hf⟩ := pm_if hf
    obtain ⟨v3, e4, hf⟩ := pm_bd hf
    obtain ⟨k5, hf⟩ := pm_if hf
    obtain ⟨u6, hf⟩ := pm_if hf
    cases hf
    exact K0
set_option maxHeartbeats 4000000 in
set_option maxRecDepth 100000 in
theorem kpX16_dies {h : pm_H} {a0 : Nat} {r : pm_H} (hf : fX16_dies h a0 = some r) : pm_S3 r h := by
  unfold fX16_dies at hf
  have K0 := pm_S3.rf h
  obtain ⟨k1, hf⟩ := pm_if hf
  obtain ⟨v2, e3, hf⟩ := pm_bd hf
  obtain ⟨y4, e5, hf⟩ := pm_lt hf
  obtain ⟨k6, hf⟩ := pm_if hf
  obtain ⟨u7, hf⟩ := pm_if hf
  obtain ⟨y8, e9, hf⟩ := pm_lt hf
  obtain ⟨v10, e11, hf⟩ := pm_bd hf
  obtain ⟨k12, hf⟩ := pm_if hf
  obtain ⟨u13, hf⟩ := pm_if hf
  cases hf
  exact K0
set_option maxHeartbeats 4000000 in
set_option maxRecDepth 100000 in
theorem kpX16_dropped {h : pm_H} {a0 : Nat} {p1 : Int32} {p2 : Int32} {r : pm_H} (hf : fX16_dropped h a0 p1 p2 = some r) : pm_S3 r h := by
  unfold fX16_dropped at hf
  have K0 := pm_S3.rf h
  obtain ⟨k1, hf⟩ := pm_if hf
  obtain ⟨v2, e3, hf⟩ := pm_bd hf
  obtain ⟨k4, hf⟩ := pm_if hf
  obtain ⟨u5, hf⟩ := pm_if hf
  cases hf
  exact K0
set_option maxHeartbeats 4000000 in
set_option maxRecDepth 100000 in
theorem kpX16_endsBy {h : pm_H} {a0 : Nat} {p1 : Int32} {p2 : Int32} {r : pm_H} (hf : fX16_endsBy h a0 p1 p2 = some r) : pm_S3 r h := by
  unfold fX16_endsBy at hf
  have K0 := pm_S3.rf h
  by_cases c1 : p2 = 0
  · have hf := pm_it hf c1
    cases hf
    exact K0
  · have hf := pm_ie hf c1
    obtain ⟨k2, hf⟩ := pm_if hf
    cases hf
    exact K0
set_option maxHeartbeats 4000000 in
set_option maxRecDepth 100000 in
theorem kpX16_exceeds {h : pm_H} {a0 : Nat} {p1 : Int32} {r : pm_H} (hf : fX16_exceeds h a0 p1 = some r) : pm_S3 r h := by
  unfold fX16_exceeds at hf
  have K0 := pm_S3.rf h
  by_cases c1 : p1 = 0
  · have hf := pm_it hf c1
    cases hf
    exact K0
  · have hf := pm_ie hf c1
    obtain ⟨k2, hf⟩ := pm_if hf
    obtain ⟨v3, e4, hf⟩ := pm_bd hf
    obtain ⟨k5, hf⟩ := pm_if hf
    by_cases c6 : 0 ≤ (pm_I h v3 3)
    · have hf := pm_it hf c6
      cases hf
      exact K0
    · have hf := pm_ie hf c6
      obtain ⟨y7, e8, hf⟩ := pm_lt hf
      cases hf
      exact K0
set_option maxHeartbeats 4000000 in
set_option maxRecDepth 100000 in
theorem kpX16_failsAtOnce {h : pm_H} {a0 : Nat} {p1 : Int32} {r : pm_H} (hf : fX16_failsAtOnce h a0 p1 = some r) : pm_S3 r h := by
  unfold fX16_failsAtOnce at hf
  have K0 := pm_S3.rf h
  obtain ⟨k1, hf⟩ := pm_if hf
  cases hf
  exact K0
set_option maxHeartbeats 4000000 in
set_option maxRecDepth 100000 in
theorem klX16_grows {r : pm_H} : ∀ n : Nat, (∀ (x0 : Nat) (x1 : Int32) (x2 : Int32) (x3 : Int32) (x4 : Int32) (h : pm_H), pm_iter sX16_grows n (x0, x1, x2, x3, x4, h) = some r → pm_S3 r h) := by
  intro n
  induction n with
  | zero => exact fun _ _ _ _ _ _ hf => (by cases hf)
  | succ n ih =>
    refine fun x0 x1 x2 x3 x4 h hf => ?_
    obtain ⟨y, hf, hi⟩ := pm_iter_s hf
    have hf : tX16_grows_3 x0 x1 x2 x3 x4 h = some y := hf
    unfold tX16_grows_3 at hf
    have K0 := pm_S3.rf h
    by_cases c1 : x2 ≤ x4
    · have hf := pm_it hf c1
      obtain ⟨k2, hf⟩ := pm_if hf
      obtain ⟨v3, e4, hf⟩ := pm_bd hf
      obtain ⟨k5, hf⟩ := pm_if hf
      obtain ⟨u6, hf⟩ := pm_if hf
      obtain ⟨y7, e8, hf⟩ := pm_lt hf
      obtain ⟨u9, hf⟩ := pm_if hf
      obtain ⟨y10, e11, hf⟩ := pm_lt hf
      cases hf
      cases hi
      exact K0
    · have hf := pm_ie hf c1
      obtain ⟨k12, hf⟩ := pm_if hf
      obtain ⟨v13, e14, hf⟩ := pm_bd hf
      obtain ⟨v15, e16, hf⟩ := pm_bd hf
      obtain ⟨k17, hf⟩ := pm_if hf
      obtain ⟨u18, hf⟩ := pm_if hf
      obtain ⟨k19, hf⟩ := pm_if hf
      obtain ⟨u20, hf⟩ := pm_if hf
      obtain ⟨y21, e22, hf⟩ := pm_lt hf
      cases hf
      exact pm_S3.trans (ih x0 x1 x2 x3 y21 (pm_setI h v13 ((((1024 * x1) + (pm_I h v15 x1.toNatClampNeg)) + x4).toNatClampNeg) x3) hi) K0
set_option maxHeartbeats 4000000 in
set_option maxRecDepth 100000 in
theorem kpX16_grows {h : pm_H} {a0 : Nat} {p1 : Int32} {p2 : Int32} {p3 : Int32} {r : pm_H} (hf : fX16_grows h a0 p1 p2 p3 = some r) : pm_S3 r h := by
  unfold fX16_grows at hf
  have K0 := pm_S3.rf h
  obtain ⟨n, hn⟩ := pm_lim_iter hf
  exact pm_S3.trans ((klX16_grows n) a0 p1 p2 p3 0 h hn) K0
set_option maxHeartbeats 4000000 in
set_option maxRecDepth 100000 in
theorem klX16_growsPages {r : pm_H} : ∀ n : Nat, (∀ (x0 : Nat) (x1 : Int32) (x2 : Int32) (x3 : Int32) (h : pm_H), pm_iter sX16_growsPages n (x0, x1, x2, x3, h) = some r → pm_S3 r h) := by
  intro n
  induction n with
  | zero => exact fun _ _ _ _ _ hf => (by cases hf)
  | succ n ih =>
    refine fun x0 x1 x2 x3 h hf => ?_
    obtain ⟨y, hf, hi⟩ := pm_iter_s hf
    have hf : tX16_growsPages_2 x0 x1 x2 x3 h = some y := hf
    unfold tX16_growsPages_2 at hf
    have K0 := pm_S3.rf h
    by_cases c1 : x2 ≤ x3
    · have hf := pm_it hf c1
      cases hf
      cases hi
      exact K0
    · have hf := pm_ie hf c1
      obtain ⟨k2, hf⟩ := pm_if hf
      obtain ⟨v3, e4, hf⟩ := pm_bd hf
      obtain ⟨v5, e6, hf⟩ := pm_bd hf
      obtain ⟨k7, hf⟩ := pm_if hf
      obtain ⟨u8, hf⟩ := pm_if hf
      obtain ⟨y9, e10, hf⟩ := pm_lt hf
      obtain ⟨k11, hf⟩ := pm_if hf
      obtain ⟨u12, hf⟩ := pm_if hf
      obtain ⟨u13, hf⟩ := pm_if hf
      obtain ⟨y14, e15, hf⟩ := pm_lt hf
      obtain ⟨u16, hf⟩ := pm_if hf
      obtain ⟨y17, e18, hf⟩ := pm_lt hf
      obtain ⟨y19, e20, hf⟩ := pm_lt hf
      cases hf
      exact pm_S3.trans (ih x0 x1 x2 y19 (pm_setI (pm_setI (pm_setI h v3 (((8 * x1) + (pm_I h v5 x1.toNatClampNeg)).toNatClampNeg) y9) v5 x1.toNatClampNeg y14) x0 53 y17) hi) K0
set_option maxHeartbeats 4000000 in
set_option maxRecDepth 100000 in
theorem kpX16_growsPages {h : pm_H} {a0 : Nat} {p1 : Int32} {p2 : Int32} {r : pm_H} (hf : fX16_growsPages h a0 p1 p2 = some r) : pm_S3 r h := by
  unfold fX16_growsPages at hf
  have K0 := pm_S3.rf h
  obtain ⟨n, hn⟩ := pm_lim_iter hf
  exact pm_S3.trans ((klX16_growsPages n) a0 p1 p2 0 h hn) K0
set_option maxHeartbeats 4000000 in
set_option maxRecDepth 100000 in
theorem kpX16_has {h : pm_H} {a0 : Nat} {p1 : Int32} {p2 : Int32} {p3 : Int32} {p4 : Int32} {r : pm_H} (hf : fX16_has h a0 p1 p2 p3 p4 = some r) : pm_S3 r h := by
  unfold fX16_has at hf
  have K0 := pm_S3.rf h
  obtain ⟨y1, e2, hf⟩ := pm_lt hf
  by_cases c3 : p1 = 0
  · have hf := pm_it hf c3
    obtain ⟨k4, hf⟩ := pm_if hf
    obtain ⟨v5, e6, hf⟩ := pm_bd hf
    obtain ⟨k7, hf⟩ := pm_if hf
    obtain ⟨u8, hf⟩ := pm_if hf
    cases hf
    exact K0
  · have hf := pm_ie hf c3
    by_cases c9 : p1 = 1
    · have hf := pm_it hf c9
      obtain ⟨k10, hf⟩ := pm_if hf
      obtain ⟨v11, e12, hf⟩ := pm_bd hf
      obtain ⟨k13, hf⟩ := pm_if hf
      obtain ⟨u14, hf⟩ := pm_if hf
      cases hf
      exact K0
    · have hf := pm_ie hf c9
      by_cases c15 : p1 = 2
      · have hf := pm_it hf c15
        obtain ⟨k16, hf⟩ := pm_if hf
        obtain ⟨v17, e18, hf⟩ := pm_bd hf
        obtain ⟨k19, hf⟩ := pm_if hf
        obtain ⟨u20, hf⟩ := pm_if hf
        cases hf
        exact K0
      · have hf := pm_ie hf c15
        obtain ⟨k21, hf⟩ := pm_if hf
        obtain ⟨v22, e23, hf⟩ := pm_bd hf
        obtain ⟨k24, hf⟩ := pm_if hf
        obtain ⟨u25, hf⟩ := pm_if hf
        cases hf
        exact K0
set_option maxHeartbeats 4000000 in
set_option maxRecDepth 100000 in
theorem kpX16_kept {h : pm_H} {a0 : Nat} {p1 : Int64} {r : (Int32 × pm_H)} (hf : fX16_kept h a0 p1 = some r) : pm_S3 r.2 h := by
  unfold fX16_kept at hf
  have K0 := pm_S3.rf h
  by_cases c1 : p1 ≤ 64
  · have hf := pm_it hf c1
    obtain ⟨k2, hf⟩ := pm_if hf
    obtain ⟨v3, e4, hf⟩ := pm_bd hf
    have K5 := pm_S3.trans (kpX16_exceeds e4) K0
    by_cases c6 : p1 ≤ 64
    · have hf := pm_it hf c6
      cases hf
      exact K5
    · have hf := pm_ie hf c6
      cases hf
      exact K5
  · have hf := pm_ie hf c1
    obtain ⟨k7, hf⟩ := pm_if hf
    obtain ⟨v8, e9, hf⟩ := pm_bd hf
    have K10 := pm_S3.trans (kpX16_exceeds e9) K0
    by_cases c11 : p1 ≤ 64
    · have hf := pm_it hf c11
      cases hf
      exact K10
    · have hf := pm_ie hf c11
      cases hf
      exact K10
set_option maxHeartbeats 4000000 in
set_option maxRecDepth 100000 in
theorem kpX16_newFunction {h : pm_H} {a0 : Nat} {p1 : Int32} {p2 : Int32} {p3 : Int32} {p4 : Int32} {p5 : Int32} {r : (Int32 × pm_H)} (hf : fX16_newFunction h a0 p1 p2 p3 p4 p5 = some r) : pm_S3 r.2 h := by
  unfold fX16_newFunction at hf
  have K0 := pm_S3.rf h
  obtain ⟨k1, hf⟩ := pm_if hf
  obtain ⟨v2, e3, hf⟩ := pm_bd hf
  obtain ⟨k4, hf⟩ := pm_if hf
  obtain ⟨u5, hf⟩ := pm_if hf
  obtain ⟨v6, e7, hf⟩ := pm_bd hf
  obtain ⟨k8, hf⟩ := pm_if hf
  obtain ⟨u9, hf⟩ := pm_if hf
  obtain ⟨v10, e11, hf⟩ := pm_bd hf
  obtain ⟨k12, hf⟩ := pm_if hf
  obtain ⟨u13, hf⟩ := pm_if hf
  obtain ⟨v14, e15, hf⟩ := pm_bd hf
  obtain ⟨k16, hf⟩ := pm_if hf
  obtain ⟨u17, hf⟩ := pm_if hf
  obtain ⟨v18, e19, hf⟩ := pm_bd hf
  obtain ⟨k20, hf⟩ := pm_if hf
  obtain ⟨u21, hf⟩ := pm_if hf
  obtain ⟨y22, e23, hf⟩ := pm_lt hf
  cases hf
  exact K0
set_option maxHeartbeats 4000000 in
set_option maxRecDepth 100000 in
theorem kpX16_opens {h : pm_H} {a0 : Nat} {p1 : Int32} {p2 : Int32} {p3 : Int32} {p4 : Int32} {r : pm_H} (hf : fX16_opens h a0 p1 p2 p3 p4 = some r) : pm_S3 r h := by
  unfold fX16_opens at hf
  have K0 := pm_S3.rf h
  obtain ⟨k1, hf⟩ := pm_if hf
  obtain ⟨v2, e3, hf⟩ := pm_bd hf
  obtain ⟨k4, hf⟩ := pm_if hf
  obtain ⟨u5, hf⟩ := pm_if hf
  obtain ⟨v6, e7, hf⟩ := pm_bd hf
  obtain ⟨y8, e9, hf⟩ := pm_lt hf
  obtain ⟨k10, hf⟩ := pm_if hf
  obtain ⟨u11, hf⟩ := pm_if hf
  obtain ⟨v12, e13, hf⟩ := pm_bd hf
  obtain ⟨k14, hf⟩ := pm_if hf
  obtain ⟨u15, hf⟩ := pm_if hf
  obtain ⟨v16, e17, hf⟩ := pm_bd hf
  obtain ⟨k18, hf⟩ := pm_if hf
  obtain ⟨u19, hf⟩ := pm_if hf
  obtain ⟨y20, e21, hf⟩ := pm_lt hf
  cases hf
  exact K0
set_option maxHeartbeats 4000000 in
set_option maxRecDepth 100000 in
theorem kpX16_pop {h : pm_H} {a0 : Nat} {r : (Int64 × pm_H)} (hf : fX16_pop h a0 = some r) : pm_S3 r.2 h := by
  unfold fX16_pop at hf
  have K0 := pm_S3.rf h
  obtain ⟨k1, hf⟩ := pm_if hf
  obtain ⟨y2, e3, hf⟩ := pm_lt hf
  obtain ⟨v4, e5, hf⟩ := pm_bd hf
  obtain ⟨y6, e7, hf⟩ := pm_lt hf
  obtain ⟨k8, hf⟩ := pm_if hf
  obtain ⟨u9, hf⟩ := pm_if hf
  cases hf
  exact K0
set_option maxHeartbeats 4000000 in
set_option maxRecDepth 100000 in
theorem kpX16_push {h : pm_H} {a0 : Nat} {p1 : Int64} {r : pm_H} (hf : fX16_push h a0 p1 = some r) : pm_S3 r h := by
  unfold fX16_push at hf
  have K0 := pm_S3.rf h
  obtain ⟨k1, hf⟩ := pm_if hf
  obtain ⟨v2, e3, hf⟩ := pm_bd hf
  obtain ⟨k4, hf⟩ := pm_if hf
  obtain ⟨u5, hf⟩ := pm_if hf
  obtain ⟨y6, e7, hf⟩ := pm_lt hf
  cases hf
  exact K0
set_option maxHeartbeats 4000000 in
set_option maxRecDepth 100000 in
theorem klX16_puts {r : pm_H} : ∀ n : Nat, (∀ (x0 : Nat) (x1 : Int32) (x2 : Int32) (h : pm_H), pm_iter sX16_puts n (x0, x1, x2, h) = some r → pm_S3 r h) := by
  intro n
  induction n with
  | zero => exact fun _ _ _ _ hf => (by cases hf)
  | succ n ih =>
    refine fun x0 x1 x2 h hf => ?_
    obtain ⟨y, hf, hi⟩ := pm_iter_s hf
    have hf : tX16_puts_3 x0 x1 x2 h = some y := hf
    unfold tX16_puts_3 at hf
    have K0 := pm_S3.rf h
    by_cases c1 : x2 < 0
    · have hf := pm_it hf c1
      cases hf
      cases hi
      exact K0
    · have hf := pm_ie hf c1
      obtain ⟨k2, hf⟩ := pm_if hf
      obtain ⟨v3, e4, hf⟩ := pm_bd hf
      obtain ⟨y5, e6, hf⟩ := pm_lt hf
      obtain ⟨k7, hf⟩ := pm_if hf
      obtain ⟨u8, hf⟩ := pm_if hf
      obtain ⟨y9, e10, hf⟩ := pm_lt hf
      obtain ⟨y11, e12, hf⟩ := pm_lt hf
      cases hf
      exact pm_S3.trans (ih x0 x1 y11 (pm_setI (pm_setI h v3 ((pm_I h x0 1).toNatClampNeg) (vp_nar .byte y5)) x0 1 y9) hi) K0
set_option maxHeartbeats 4000000 in
set_option maxRecDepth 100000 in
theorem kpX16_puts {h : pm_H} {a0 : Nat} {p1 : Int32} {r : pm_H} (hf : fX16_puts h a0 p1 = some r) : pm_S3 r h := by
  unfold fX16_puts at hf
  have K0 := pm_S3.rf h
  obtain ⟨n, hn⟩ := pm_lim_iter hf
  exact pm_S3.trans ((klX16_puts n) a0 p1 24 h hn) K0
