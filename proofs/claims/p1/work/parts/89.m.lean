set_option maxHeartbeats 4000000 in
set_option maxRecDepth 100000 in
theorem kpX5_leave {h : pm_H} {a0 : Nat} {r : pm_H} (hf : fX5_leave h a0 = some r) : pm_S3 r h := by
  unfold fX5_leave at hf
  have K0 := pm_S3.rf h
  obtain ⟨k1, hf⟩ := pm_if hf
  obtain ⟨v2, e3, hf⟩ := pm_bd hf
  obtain ⟨k4, hf⟩ := pm_if hf
  obtain ⟨v5, e6, hf⟩ := pm_bd hf
  obtain ⟨k7, hf⟩ := pm_if hf
  obtain ⟨y8, e9, hf⟩ := pm_lt hf
  obtain ⟨v10, e11, hf⟩ := pm_bd hf
  obtain ⟨v12, e13, hf⟩ := pm_bd hf
  obtain ⟨y14, e15, hf⟩ := pm_lt hf
  obtain ⟨y16, e17, hf⟩ := pm_lt hf
  by_cases c18 : (pm_I (pm_setI (pm_setI h a0 3 y14) a0 13 y16) a0 3) ≤ 0
  · have hf := pm_it hf c18
    obtain ⟨v19, e20, hf⟩ := pm_bd hf
    have K21 := pm_S3.trans (kpX5_tell e20) K0
    obtain ⟨k22, hf⟩ := pm_if hf
    obtain ⟨v23, e24, hf⟩ := pm_bd hf
    have K25 := pm_S3.trans (kpX5_stop e24) K21
    cases hf
    exact K25
  · have hf := pm_ie hf c18
    by_cases c26 : (pm_I (pm_setI (pm_setI h a0 3 y14) a0 13 y16) a0 3) ≤ 200
    · have hf := pm_it hf c26
      obtain ⟨v27, e28, hf⟩ := pm_bd hf
      obtain ⟨y29, e30, hf⟩ := pm_lt hf
      obtain ⟨k31, hf⟩ := pm_if hf
      obtain ⟨u32, hf⟩ := pm_if hf
      obtain ⟨v33, e34, hf⟩ := pm_bd hf
      obtain ⟨v35, e36, hf⟩ := pm_bd hf
      obtain ⟨v37, e38, hf⟩ := pm_bd hf
      obtain ⟨k39, hf⟩ := pm_if hf
      obtain ⟨v40, e41, hf⟩ := pm_bd hf
      have K42 := pm_S3.trans (kpX12_move e41) K0
      obtain ⟨k43, hf⟩ := pm_if hf
      obtain ⟨v44, e45, hf⟩ := pm_bd hf
      obtain ⟨k46, hf⟩ := pm_if hf
      obtain ⟨y47, e48, hf⟩ := pm_lt hf
      cases hf
      exact K42
    · have hf := pm_ie hf c26
      obtain ⟨v49, e50, hf⟩ := pm_bd hf
      have K51 := pm_S3.trans (kpX5_tell e50) K0
      obtain ⟨k52, hf⟩ := pm_if hf
      obtain ⟨v53, e54, hf⟩ := pm_bd hf
      have K55 := pm_S3.trans (kpX5_stop e54) K51
      cases hf
      exact K55
set_option maxHeartbeats 4000000 in
set_option maxRecDepth 100000 in
theorem klX6_fill {r : pm_H} : ∀ n : Nat, (∀ (x0 : Nat) (x1 : Int32) (x2 : Int64) (x4 : Int32) (x5 : Int64) (x7 : Int64) (x9 : Int32) (h : pm_H), pm_iter sX6_fill n (x0, x1, x2, x4, x5, x7, x9, h) = some r → pm_S3 r h) := by
  intro n
  induction n with
  | zero => exact fun _ _ _ _ _ _ _ _ hf => (by cases hf)
  | succ n ih =>
    refine fun x0 x1 x2 x4 x5 x7 x9 h hf => ?_
    obtain ⟨y, hf, hi⟩ := pm_iter_s hf
    have hf : tX6_fill_6 x0 x1 x2 x4 x5 x7 x9 h = some y := hf
    unfold tX6_fill_6 at hf
    have K0 := pm_S3.rf h
    by_cases c1 : 16 ≤ x9
    · have hf := pm_it hf c1
      cases hf
      cases hi
      exact K0
    · have hf := pm_ie hf c1
      by_cases c2 : x5 ≤ x7
      · have hf := pm_it hf c2
        cases hf
        cases hi
        exact K0
      · have hf := pm_ie hf c2
        obtain ⟨k3, hf⟩ := pm_if hf
        obtain ⟨v4, e5, hf⟩ := pm_bd hf
        obtain ⟨y6, e7, hf⟩ := pm_lt hf
        by_cases c8 : 0 < y6
        · have hf := pm_it hf c8
          obtain ⟨y9, e10, hf⟩ := pm_lt hf
          obtain ⟨v11, e12, hf⟩ := pm_bd hf
          obtain ⟨v13, e14, hf⟩ := pm_bd hf
          obtain ⟨k15, hf⟩ := pm_if hf
          obtain ⟨u16, hf⟩ := pm_if hf
          obtain ⟨v17, e18, hf⟩ := pm_bd hf
          obtain ⟨v19, e20, hf⟩ := pm_bd hf
          have K21 := pm_S3.trans (kpJ7_fill_eb02e e20) K0
          obtain ⟨y22, e23, hf⟩ := pm_lt hf
          obtain ⟨y24, e25, hf⟩ := pm_lt hf
          cases hf
          exact pm_S3.trans (ih x0 x1 x2 x4 x5 y22 y24 v19 hi) K21
        · have hf := pm_ie hf c8
          cases hf
          cases hi
          exact K0
set_option maxHeartbeats 4000000 in
set_option maxRecDepth 100000 in
theorem kpX6_fill {h : pm_H} {a0 : Nat} {p1 : Int32} {p2 : Int64} {p3 : Int32} {p4 : Int64} {r : pm_H} (hf : fX6_fill h a0 p1 p2 p3 p4 = some r) : pm_S3 r h := by
  unfold fX6_fill at hf
  have K0 := pm_S3.rf h
  obtain ⟨n, hn⟩ := pm_lim_iter hf
  exact pm_S3.trans ((klX6_fill n) a0 p1 p2 p3 p4 0 0 h hn) K0
set_option maxHeartbeats 4000000 in
set_option maxRecDepth 100000 in
theorem kpX9_blockType_b47 {h : pm_H} {x0 : Nat} {x1 : Int32} {x2 : Int64} {s0 : Int32} {r : (Int64 × pm_H)} (hf : fX9_blockType_b47 h x0 x1 x2 s0 = some r) : pm_S3 r.2 h := by
  unfold fX9_blockType_b47 at hf
  have K0 := pm_S3.rf h
  by_cases c13 : 0 ≤ x2
  · have hf := pm_it hf c13
    cases hf
    exact K0
  · have hf := pm_ie hf c13
    by_cases c14 : s0 = 0
    · have hf := pm_it hf c14
      obtain ⟨k15, hf⟩ := pm_if hf
      obtain ⟨v16, e17, hf⟩ := pm_bd hf
      have K18 := pm_S3.trans (kpX9_fail e17) K0
      cases hf
      exact K18
    · have hf := pm_ie hf c14
      cases hf
      exact K0
set_option maxHeartbeats 4000000 in
set_option maxRecDepth 100000 in
theorem kpX9_blockType_b42 {h : pm_H} {x0 : Nat} {x1 : Int32} {x2 : Int64} {r : (Int64 × pm_H)} (hf : fX9_blockType_b42 h x0 x1 x2 = some r) : pm_S3 r.2 h := by
  unfold fX9_blockType_b42 at hf
  have K0 := pm_S3.rf h
  exact pm_S3.trans (kpX9_blockType_b47 hf) K0
set_option maxHeartbeats 4000000 in
set_option maxRecDepth 100000 in
theorem kpX9_blockType_b46 {h : pm_H} {x0 : Nat} {x1 : Int32} {x2 : Int64} {r : (Int64 × pm_H)} (hf : fX9_blockType_b46 h x0 x1 x2 = some r) : pm_S3 r.2 h := by
  unfold fX9_blockType_b46 at hf
  have K0 := pm_S3.rf h
  exact pm_S3.trans (kpX9_blockType_b47 hf) K0
set_option maxHeartbeats 4000000 in
set_option maxRecDepth 100000 in
theorem kpX9_blockType {h : pm_H} {a0 : Nat} {r : (Int64 × pm_H)} (hf : fX9_blockType h a0 = some r) : pm_S3 r.2 h := by
  unfold fX9_blockType at hf
  have K0 := pm_S3.rf h
  obtain ⟨k1, hf⟩ := pm_if hf
  obtain ⟨y2, e3, hf⟩ := pm_lt hf
  obtain ⟨v4, e5, hf⟩ := pm_bd hf
  have K6 := pm_S3.trans (kpX9_number e5) K0
  obtain ⟨k7, hf⟩ := pm_if hf
  by_cases c8 : ((pm_I v4.2 a0 1) - y2) = 1
  · have hf := pm_it hf c8
    by_cases c9 : v4.1 = (-64)
    · have hf := pm_it hf c9
      exact pm_S3.trans (kpX9_blockType_b42 hf) K6
    · have hf := pm_ie hf c9
      obtain ⟨v10, e11, hf⟩ := pm_lt hf
      by_cases c12 : v10 = 0
      · have hf := pm_it hf c12
        exact pm_S3.trans (kpX9_blockType_b46 hf) K6
      · have hf := pm_ie hf c12
        exact pm_S3.trans (kpX9_blockType_b42 hf) K6
  · have hf := pm_ie hf c8
    exact pm_S3.trans (kpX9_blockType_b46 hf) K6
set_option maxHeartbeats 4000000 in
set_option maxRecDepth 100000 in
theorem kpX9_describe_b102 {h : pm_H} {x0 : Nat} {x1 : Nat} {x2 : Int32} {x3 : Int32} {r : pm_H} (hf : fX9_describe_b102 h x0 x1 x2 x3 = some r) : pm_S3 r h := by
  unfold fX9_describe_b102 at hf
  have K0 := pm_S3.rf h
  by_cases c44 : x3 = 3
  · have hf := pm_it hf c44
    obtain ⟨k45, hf⟩ := pm_if hf
    obtain ⟨v46, e47, hf⟩ := pm_bd hf
    have K48 := pm_S3.trans (kpX9_valueType e47) K0
    obtain ⟨v49, e50, hf⟩ := pm_bd hf
    have K51 := pm_S3.trans (kpX12_setItem_ e50) K48
    obtain ⟨k52, hf⟩ := pm_if hf
    obtain ⟨v53, e54, hf⟩ := pm_bd hf
    have K55 := pm_S3.trans (kpX9_nextUpTo e54) K51
    obtain ⟨v56, e57, hf⟩ := pm_bd hf
    have K58 := pm_S3.trans (kpX12_setItem_ e57) K55
    cases hf
    exact K58
  · have hf := pm_ie hf c44
    cases hf
    exact K0
set_option maxHeartbeats 4000000 in
set_option maxRecDepth 100000 in
theorem kpX9_describe_b63 {h : pm_H} {x0 : Nat} {x1 : Nat} {x2 : Int32} {x3 : Int32} {r : pm_H} (hf : fX9_describe_b63 h x0 x1 x2 x3 = some r) : pm_S3 r h := by
  unfold fX9_describe_b63 at hf
  have K0 := pm_S3.rf h
  obtain ⟨k25, hf⟩ := pm_if hf
  obtain ⟨v26, e27, hf⟩ := pm_bd hf
  have K28 := pm_S3.trans (kpX9_nextUpTo e27) K0
  obtain ⟨k29, hf⟩ := pm_if hf
  obtain ⟨v30, e31, hf⟩ := pm_bd hf
  have K32 := pm_S3.trans (kpX9_number e31) K28
  obtain ⟨v33, e34, hf⟩ := pm_bd hf
  have K35 := pm_S3.trans (kpX12_setItem_ e34) K32
  by_cases c36 : v26.1 = 1
  · have hf := pm_it hf c36
    obtain ⟨k37, hf⟩ := pm_if hf
    obtain ⟨v38, e39, hf⟩ := pm_bd hf
    have K40 := pm_S3.trans (kpX9_number e39) K35
    obtain ⟨v41, e42, hf⟩ := pm_bd hf
    have K43 := pm_S3.trans (kpX12_setItem_ e42) K40
    exact pm_S3.trans (kpX9_describe_b102 hf) K43
  · have hf := pm_ie hf c36
    exact pm_S3.trans (kpX9_describe_b102 hf) K35
set_option maxHeartbeats 4000000 in
set_option maxRecDepth 100000 in
theorem kpX9_describe_b53 {h : pm_H} {x0 : Nat} {x1 : Nat} {x2 : Int32} {x3 : Int32} {r : pm_H} (hf : fX9_describe_b53 h x0 x1 x2 x3 = some r) : pm_S3 r h := by
  unfold fX9_describe_b53 at hf
  have K0 := pm_S3.rf h
  by_cases c23 : x3 = 1
  · have hf := pm_it hf c23
    exact pm_S3.trans (kpX9_describe_b63 hf) K0
  · have hf := pm_ie hf c23
    by_cases c24 : x3 = 2
    · have hf := pm_it hf c24
      exact pm_S3.trans (kpX9_describe_b63 hf) K0
    · have hf := pm_ie hf c24
      exact pm_S3.trans (kpX9_describe_b102 hf) K0
set_option maxHeartbeats 4000000 in
set_option maxRecDepth 100000 in
theorem kpX9_describe_b36 {h : pm_H} {x0 : Nat} {x1 : Nat} {x2 : Int32} {x3 : Int32} {r : pm_H} (hf : fX9_describe_b36 h x0 x1 x2 x3 = some r) : pm_S3 r h := by
  unfold fX9_describe_b36 at hf
  have K0 := pm_S3.rf h
  by_cases c15 : x3 = 1
  · have hf := pm_it hf c15
    obtain ⟨k16, hf⟩ := pm_if hf
    obtain ⟨v17, e18, hf⟩ := pm_bd hf
    have K19 := pm_S3.trans (kpX9_referenceType e18) K0
    obtain ⟨v20, e21, hf⟩ := pm_bd hf
    have K22 := pm_S3.trans (kpX12_setItem_ e21) K19
    exact pm_S3.trans (kpX9_describe_b53 hf) K22
  · have hf := pm_ie hf c15
    exact pm_S3.trans (kpX9_describe_b53 hf) K0
set_option maxHeartbeats 4000000 in
set_option maxRecDepth 100000 in
theorem kpX9_describe {h : pm_H} {a0 : Nat} {p1 : Nat} {p2 : Int32} {p3 : Int32} {r : pm_H} (hf : fX9_describe h a0 p1 p2 p3 = some r) : pm_S3 r h := by
  unfold fX9_describe at hf
  have K0 := pm_S3.rf h
  obtain ⟨v1, e2, hf⟩ := pm_bd hf
  have K3 := pm_S3.trans (kpX12_setItem_ e2) K0
  obtain ⟨v4, e5, hf⟩ := pm_bd hf
  have K6 := pm_S3.trans (kpX12_setItem_ e5) K3
  by_cases c7 : p3 = 0
  · have hf := pm_it hf c7
    obtain ⟨k8, hf⟩ := pm_if hf
    obtain ⟨v9, e10, hf⟩ := pm_bd hf
    have K11 := pm_S3.trans (kpX9_number e10) K6
    obtain ⟨v12, e13, hf⟩ := pm_bd hf
    have K14 := pm_S3.trans (kpX12_setItem_ e13) K11
    exact pm_S3.trans (kpX9_describe_b36 hf) K14
  · have hf := pm_ie hf c7
    exact pm_S3.trans (kpX9_describe_b36 hf) K6
set_option maxHeartbeats 4000000 in
set_option maxRecDepth 100000 in
theorem klX9_labels {r : pm_H} : ∀ n : Nat, (∀ (x0 : Nat) (x1 : Int64) (h : pm_H), pm_iter sX9_labels n (x0, x1, h) = some r → pm_S3 r h) := by
  intro n
  induction n with
  | zero => exact fun _ _ _ hf => (by cases hf)
  | succ n ih =>
    refine fun x0 x1 h hf => ?_
    obtain ⟨y, hf, hi⟩ := pm_iter_s hf
    have hf : tX9_labels_43 x0 x1 h = some y := hf
    unfold tX9_labels_43 at hf
    have K0 := pm_S3.rf h
    obtain ⟨k13, hf⟩ := pm_if hf
    by_cases c14 : (pm_L h x0 8) < x1
    · have hf := pm_it hf c14
      cases hf
      cases hi
      exact K0
    · have hf := pm_ie hf c14
      by_cases c15 : (pm_I h x0 3) = 0
      · have hf := pm_it hf c15
        obtain ⟨v16, e17, hf⟩ := pm_bd hf
        have K18 := pm_S3.trans (kpX9_number e17) K0
        obtain ⟨y19, e20, hf⟩ := pm_lt hf
        cases hf
        exact pm_S3.trans (ih x0 y19 v16.2 hi) K18
      · have hf := pm_ie hf c15
        cases hf
        cases hi
        exact K0
set_option maxHeartbeats 4000000 in
set_option maxRecDepth 100000 in
theorem kpX9_labels {h : pm_H} {a0 : Nat} {r : pm_H} (hf : fX9_labels h a0 = some r) : pm_S3 r h := by
  unfold fX9_labels at hf
  have K0 := pm_S3.rf h
  obtain ⟨k1, hf⟩ := pm_if hf
  obtain ⟨v2, e3, hf⟩ := pm_bd hf
  have K4 := pm_S3.trans (kpX9_number e3) K0
  obtain ⟨k5, hf⟩ := pm_if hf
  obtain ⟨y6, e7, hf⟩ := pm_lt hf
  by_cases c8 : (pm_I (pm_setL (pm_setL v2.2 a0 8 v2.1) a0 9 y6) a0 16) = 0
  · have hf := pm_it hf c8
    obtain ⟨n, hn⟩ := pm_lim_iter hf
    exact pm_S3.trans ((klX9_labels n) a0 0 (pm_setL (pm_setL v2.2 a0 8 v2.1) a0 9 y6) hn) K4
  · have hf := pm_ie hf c8
    by_cases c9 : (pm_L (pm_setL (pm_setL v2.2 a0 8 v2.1) a0 9 y6) a0 8) ≤ 200
    · have hf := pm_it hf c9
      obtain ⟨n, hn⟩ := pm_lim_iter hf
      exact pm_S3.trans ((klX9_labels n) a0 0 (pm_setL (pm_setL v2.2 a0 8 v2.1) a0 9 y6) hn) K4
    · have hf := pm_ie hf c9
      obtain ⟨v10, e11, hf⟩ := pm_bd hf
      have K12 := pm_S3.trans (kpX9_exceedLimit e11) K4
      obtain ⟨n, hn⟩ := pm_lim_iter hf
      exact pm_S3.trans ((klX9_labels n) a0 0 v10 hn) K12
set_option maxHeartbeats 4000000 in
set_option maxRecDepth 100000 in
theorem kpX9_longInstruction_b155 {h : pm_H} {x0 : Nat} {x1 : Int64} {r : pm_H} (hf : fX9_longInstruction_b155 h x0 x1 = some r) : pm_S3 r h := by
  unfold fX9_longInstruction_b155 at hf
  have K0 := pm_S3.rf h
  by_cases c41 : x1 = 8
  · have hf := pm_it hf c41
    obtain ⟨k42, hf⟩ := pm_if hf
    obtain ⟨v43, e44, hf⟩ := pm_bd hf
    have K45 := pm_S3.trans (kpX9_nextUpTo e44) K0
    by_cases c46 : x1 = 10
    · have hf := pm_it hf c46
      obtain ⟨k47, hf⟩ := pm_if hf
      obtain ⟨v48, e49, hf⟩ := pm_bd hf
      have K50 := pm_S3.trans (kpX9_nextUpTo e49) K45
      cases hf
      exact K50
    · have hf := pm_ie hf c46
      cases hf
      exact K45
  · have hf := pm_ie hf c41
    by_cases c51 : x1 = 10
    · have hf := pm_it hf c51
      obtain ⟨k52, hf⟩ := pm_if hf
      obtain ⟨v53, e54, hf⟩ := pm_bd hf
      have K55 := pm_S3.trans (kpX9_nextUpTo e54) K0
      by_cases c56 : x1 = 10
      · have hf := pm_it hf c56
        obtain ⟨k57, hf⟩ := pm_if hf
        obtain ⟨v58, e59, hf⟩ := pm_bd hf
        have K60 := pm_S3.trans (kpX9_nextUpTo e59) K55
        cases hf
        exact K60
      · have hf := pm_ie hf c56
        cases hf
        exact K55
    · have hf := pm_ie hf c51
      by_cases c61 : x1 = 11
      · have hf := pm_it hf c61
        obtain ⟨k62, hf⟩ := pm_if hf
        obtain ⟨v63, e64, hf⟩ := pm_bd hf
        have K65 := pm_S3.trans (kpX9_nextUpTo e64) K0
        by_cases c66 : x1 = 10
        · have hf := pm_it hf c66
          obtain ⟨k67, hf⟩ := pm_if hf
          obtain ⟨v68, e69, hf⟩ := pm_bd hf
          have K70 := pm_S3.trans (kpX9_nextUpTo e69) K65
          cases hf
          exact K70
        · have hf := pm_ie hf c66
          cases hf
          exact K65
      · have hf := pm_ie hf c61
        by_cases c71 : x1 = 10
        · have hf := pm_it hf c71
          obtain ⟨k72, hf⟩ := pm_if hf
          obtain ⟨v73, e74, hf⟩ := pm_bd hf
          have K75 := pm_S3.trans (kpX9_nextUpTo e74) K0
          cases hf
          exact K75
        · have hf := pm_ie hf c71
          cases hf
          exact K0
set_option maxHeartbeats 4000000 in
set_option maxRecDepth 100000 in
theorem kpX9_longInstruction_b145 {h : pm_H} {x0 : Nat} {x1 : Int64} {r : pm_H} (hf : fX9_longInstruction_b145 h x0 x1 = some r) : pm_S3 r h := by
  unfold fX9_longInstruction_b145 at hf
  have K0 := pm_S3.rf h
  obtain ⟨k36, hf⟩ := pm_if hf
  obtain ⟨v37, e38, hf⟩ := pm_bd hf
  have K39 := pm_S3.trans (kpX9_number e38) K0
  obtain ⟨k40, hf⟩ := pm_if hf
  exact pm_S3.trans (kpX9_longInstruction_b155 hf) K39
set_option maxHeartbeats 4000000 in
set_option maxRecDepth 100000 in
theorem kpX9_longInstruction_b129 {h : pm_H} {x0 : Nat} {x1 : Int64} {r : pm_H} (hf : fX9_longInstruction_b129 h x0 x1 = some r) : pm_S3 r h := by
  unfold fX9_longInstruction_b129 at hf
  have K0 := pm_S3.rf h
  by_cases c34 : x1 = 12
  · have hf := pm_it hf c34
    exact pm_S3.trans (kpX9_longInstruction_b145 hf) K0
  · have hf := pm_ie hf c34
    by_cases c35 : x1 = 14
    · have hf := pm_it hf c35
      exact pm_S3.trans (kpX9_longInstruction_b145 hf) K0
    · have hf := pm_ie hf c35
      exact pm_S3.trans (kpX9_longInstruction_b155 hf) K0
set_option maxHeartbeats 4000000 in
set_option maxRecDepth 100000 in
theorem kpX9_longInstruction_b91 {h : pm_H} {x0 : Nat} {x1 : Int64} {s0 : Int32} {s1 : Int32} {s2 : Nat} {r : pm_H} (hf : fX9_longInstruction_b91 h x0 x1 s0 s1 s2 = some r) : pm_S3 r h := by
  unfold fX9_longInstruction_b91 at hf
  have K0 := pm_S3.rf h
  obtain ⟨y23, e24, hf⟩ := pm_lt hf
  obtain ⟨k25, hf⟩ := pm_if hf
  by_cases c26 : x1 < 8
  · have hf := pm_it hf c26
    exact pm_S3.trans (kpX9_longInstruction_b129 hf) K0
  · have hf := pm_ie hf c26
    by_cases c27 : x1 = 10
    · have hf := pm_it hf c27
      exact pm_S3.trans (kpX9_longInstruction_b129 hf) K0
    · have hf := pm_ie hf c27
      by_cases c28 : x1 = 11
      · have hf := pm_it hf c28
        exact pm_S3.trans (kpX9_longInstruction_b129 hf) K0
      · have hf := pm_ie hf c28
        obtain ⟨k29, hf⟩ := pm_if hf
        obtain ⟨v30, e31, hf⟩ := pm_bd hf
        have K32 := pm_S3.trans (kpX9_number e31) K0
        obtain ⟨k33, hf⟩ := pm_if hf
        exact pm_S3.trans (kpX9_longInstruction_b129 hf) K32
set_option maxHeartbeats 4000000 in
set_option maxRecDepth 100000 in
theorem kpX9_longInstruction_b63 {h : pm_H} {x0 : Nat} {x1 : Int64} {r : pm_H} (hf : fX9_longInstruction_b63 h x0 x1 = some r) : pm_S3 r h := by
  unfold fX9_longInstruction_b63 at hf
  have K0 := pm_S3.rf h
  obtain ⟨k20, hf⟩ := pm_if hf
  by_cases c21 : (pm_I h x0 3) = 0
  · have hf := pm_it hf c21
    by_cases c22 : 8 ≤ x1
    · have hf := pm_it hf c22
      exact pm_S3.trans (kpX9_longInstruction_b91 hf) K0
    · have hf := pm_ie hf c22
      exact pm_S3.trans (kpX9_longInstruction_b91 hf) K0
  · have hf := pm_ie hf c21
    cases hf
    exact K0
set_option maxHeartbeats 4000000 in
set_option maxRecDepth 100000 in
theorem kpX9_longInstruction_b41 {h : pm_H} {x0 : Nat} {x1 : Int64} {r : pm_H} (hf : fX9_longInstruction_b41 h x0 x1 = some r) : pm_S3 r h := by
  unfold fX9_longInstruction_b41 at hf
  have K0 := pm_S3.rf h
  obtain ⟨k12, hf⟩ := pm_if hf
  obtain ⟨v13, e14, hf⟩ := pm_bd hf
  obtain ⟨k15, hf⟩ := pm_if hf
  by_cases c16 : 0 ≤ (pm_L h v13 14)
  · have hf := pm_it hf c16
    exact pm_S3.trans (kpX9_longInstruction_b63 hf) K0
  · have hf := pm_ie hf c16
    obtain ⟨v17, e18, hf⟩ := pm_bd hf
    have K19 := pm_S3.trans (kpX9_fail e18) K0
    exact pm_S3.trans (kpX9_longInstruction_b63 hf) K19
set_option maxHeartbeats 4000000 in
set_option maxRecDepth 100000 in
theorem kpX9_longInstruction_b25 {h : pm_H} {x0 : Nat} {x1 : Int64} {r : pm_H} (hf : fX9_longInstruction_b25 h x0 x1 = some r) : pm_S3 r h := by
  unfold fX9_longInstruction_b25 at hf
  have K0 := pm_S3.rf h
  by_cases c10 : x1 = 8
  · have hf := pm_it hf c10
    exact pm_S3.trans (kpX9_longInstruction_b41 hf) K0
  · have hf := pm_ie hf c10
    by_cases c11 : x1 = 9
    · have hf := pm_it hf c11
      exact pm_S3.trans (kpX9_longInstruction_b41 hf) K0
    · have hf := pm_ie hf c11
      exact pm_S3.trans (kpX9_longInstruction_b63 hf) K0
set_option maxHeartbeats 4000000 in
set_option maxRecDepth 100000 in
theorem kpX9_longInstruction {h : pm_H} {a0 : Nat} {r : pm_H} (hf : fX9_longInstruction h a0 = some r) : pm_S3 r h := by
  unfold fX9_longInstruction at hf
  have K0 := pm_S3.rf h
  obtain ⟨k1, hf⟩ := pm_if hf
  obtain ⟨v2, e3, hf⟩ := pm_bd hf
  have K4 := pm_S3.trans (kpX9_number e3) K0
  by_cases c5 : v2.1 ≤ 17
  · have hf := pm_it hf c5
    exact pm_S3.trans (kpX9_longInstruction_b25 hf) K4
  · have hf := pm_ie hf c5
    obtain ⟨k6, hf⟩ := pm_if hf
    obtain ⟨v7, e8, hf⟩ := pm_bd hf
    have K9 := pm_S3.trans (kpX9_fail e8) K4
    exact pm_S3.trans (kpX9_longInstruction_b25 hf) K9
set_option maxHeartbeats 4000000 in
set_option maxRecDepth 100000 in
theorem klX9_name {r : (Int32 × pm_H)} : ∀ n : Nat, (∀ (x0 : Nat) (x1 : Int64) (x3 : Int32) (h : pm_H), pm_iter sX9_name n (x0, x1, x3, h) = some r → pm_S3 r.2 h) := by
  intro n
  induction n with
  | zero => exact fun _ _ _ _ hf => (by cases hf)
  | succ n ih =>
    refine fun x0 x1 x3 h hf => ?_
    obtain ⟨y, hf, hi⟩ := pm_iter_s hf
    have hf : tX9_name_17 x0 x1 x3 h = some y := hf
    unfold tX9_name_17 at hf
    have K0 := pm_S3.rf h
    obtain ⟨k11, hf⟩ := pm_if hf
    by_cases c12 : (pm_I h x0 1) ≤ x3
    · have hf := pm_it hf c12
      by_cases c13 : (pm_I h x0 3) = 0
      · have hf := pm_it hf c13
        cases hf
        cases hi
        exact K0
      · have hf := pm_ie hf c13
        cases hf
        cases hi
        exact K0
    · have hf := pm_ie hf c12
      by_cases c14 : (pm_I h x0 3) = 0
      · have hf := pm_it hf c14
        obtain ⟨v15, e16, hf⟩ := pm_bd hf
        by_cases c17 : v15 = 0
        · have hf := pm_it hf c17
          obtain ⟨v18, e19, hf⟩ := pm_bd hf
          have K20 := pm_S3.trans (kpX9_fail e19) K0
          obtain ⟨y21, e22, hf⟩ := pm_lt hf
          cases hf
          exact pm_S3.trans (ih x0 x1 y21 v18 hi) K20
        · have hf := pm_ie hf c17
          obtain ⟨y23, e24, hf⟩ := pm_lt hf
          cases hf
          exact pm_S3.trans (ih x0 x1 y23 h hi) K0
      · have hf := pm_ie hf c14
        by_cases c25 : (pm_I h x0 3) = 0
        · have hf := pm_it hf c25
          cases hf
          cases hi
          exact K0
        · have hf := pm_ie hf c25
          cases hf
          cases hi
          exact K0
set_option maxHeartbeats 4000000 in
set_option maxRecDepth 100000 in
theorem kpX9_name {h : pm_H} {a0 : Nat} {r : (Int32 × pm_H)} (hf : fX9_name h a0 = some r) : pm_S3 r.2 h := by
  unfold fX9_name at hf
  have K0 := pm_S3.rf h
  obtain ⟨k1, hf⟩ := pm_if hf
  obtain ⟨v2, e3, hf⟩ := pm_bd hf
  have K4 := pm_S3.trans (kpX9_number e3) K0
  obtain ⟨k5, hf⟩ := pm_if hf
  obtain ⟨y6, e7, hf⟩ := pm_lt hf
  obtain ⟨v8, e9, hf⟩ := pm_bd hf
  have K10 := pm_S3.trans (kpX9_skip e9) K4
  obtain ⟨n, hn⟩ := pm_lim_iter hf
  exact pm_S3.trans ((klX9_name n) a0 v2.1 y6 v8 hn) K10
set_option maxHeartbeats 4000000 in
set_option maxRecDepth 100000 in
theorem klX10_alongMemory {r : (Int64 × pm_H)} : ∀ n : Nat, (∀ (x0 : Nat) (x1 : Nat) (x2 : Int32) (x3 : Int32) (x4 : Int64) (x6 : Int64) (x8 : Int64) (x10 : Int32) (x11 : Int32) (h : pm_H), pm_iter sX10_alongMemory n (.inl (x0, x1, x2, x3, x4, x6, x8, x10, x11, h)) = some r → pm_S3 r.2 h) ∧ (∀ (x0 : Nat) (x1 : Nat) (x2 : Int32) (x3 : Int32) (x4 : Int64) (x6 : Int64) (x8 : Int64) (x10 : Int32) (x11 : Int32) (h : pm_H), pm_iter sX10_alongMemory n (.inr (.inl (x0, x1, x2, x3, x4, x6, x8, x10, x11, h))) = some r → pm_S3 r.2 h) ∧ (∀ (x0 : Nat) (x1 : Nat) (x2 : Int32) (x3 : Int32) (x4 : Int64) (x6 : Int64) (x8 : Int64) (x10 : Int32) (h : pm_H), pm_iter sX10_alongMemory n (.inr (.inr (.inl (x0, x1, x2, x3, x4, x6, x8, x10, h)))) = some r → pm_S3 r.2 h) ∧ (∀ (x0 : Nat) (x4 : Int64) (x8 : Int64) (x10 : Int32) (x12 : Nat) (x13 : Int64) (x15 : Int64) (h : pm_H), pm_iter sX10_alongMemory n (.inr (.inr (.inr (x0, x4, x8, x10, x12, x13, x15, h)))) = some r → pm_S3 r.2 h) := by
  intro n
  induction n with
  | zero => exact ⟨fun _ _ _ _ _ _ _ _ _ _ hf => (by cases hf), fun _ _ _ _ _ _ _ _ _ _ hf => (by cases hf), fun _ _ _ _ _ _ _ _ _ hf => (by cases hf), fun _ _ _ _ _ _ _ _ hf => (by cases hf)⟩
  | succ n ih =>
    refine ⟨fun x0 x1 x2 x3 x4 x6 x8 x10 x11 h hf => ?_, ?_⟩
    · obtain ⟨y, hf, hi⟩ := pm_iter_s hf
      have hf : tX10_alongMemory_71 x0 x1 x2 x3 x4 x6 x8 x10 x11 h = some y := hf
      unfold tX10_alongMemory_71 at hf
      have K0 := pm_S3.rf h
      by_cases c24 : x2 = 310
      · have hf := pm_it hf c24
        obtain ⟨k25, hf⟩ := pm_if hf
        obtain ⟨v26, e27, hf⟩ := pm_bd hf
        obtain ⟨k28, hf⟩ := pm_if hf
        obtain ⟨v29, e30, hf⟩ := pm_bd hf
        by_cases c31 : v29 = 0
        · have hf := pm_it hf c31
          cases hf
          exact pm_S3.trans (ih.2.1 x0 x1 x2 x3 x4 x6 x8 x10 0 h hi) K0
        · have hf := pm_ie hf c31
          cases hf
          exact pm_S3.trans (ih.2.1 x0 x1 x2 x3 x4 x6 x8 x10 x11 h hi) K0
      · have hf := pm_ie hf c24
        cases hf
        exact pm_S3.trans (ih.2.1 x0 x1 x2 x3 x4 x6 x8 x10 x11 h hi) K0
    refine ⟨fun x0 x1 x2 x3 x4 x6 x8 x10 x11 h hf => ?_, ?_⟩
    · obtain ⟨y, hf, hi⟩ := pm_iter_s hf
      have hf : tX10_alongMemory_97 x0 x1 x2 x3 x4 x6 x8 x10 x11 h = some y := hf
      unfold tX10_alongMemory_97 at hf
      have K0 := pm_S3.rf h
      by_cases c32 : x11 = 0
      · have hf := pm_it hf c32
        obtain ⟨k33, hf⟩ := pm_if hf
        cases hf
        cases hi
        exact K0
      · have hf := pm_ie hf c32
        by_cases c34 : x2 = 310
        · have hf := pm_it hf c34
          obtain ⟨k35, hf⟩ := pm_if hf
          obtain ⟨v36, e37, hf⟩ := pm_bd hf
          obtain ⟨k38, hf⟩ := pm_if hf
          obtain ⟨v39, e40, hf⟩ := pm_bd hf
          have K41 := pm_S3.trans (kpX6_copy e40) K0
          cases hf
          exact pm_S3.trans (ih.2.2.1 x0 x1 x2 x3 x4 x6 x8 x10 v39 hi) K41
        · have hf := pm_ie hf c34
          cases hf
          exact pm_S3.trans (ih.2.2.1 x0 x1 x2 x3 x4 x6 x8 x10 h hi) K0
    refine ⟨fun x0 x1 x2 x3 x4 x6 x8 x10 h hf => ?_, ?_⟩
    · obtain ⟨y, hf, hi⟩ := pm_iter_s hf
      have hf : tX10_alongMemory_131 x0 x1 x2 x3 x4 x6 x8 x10 h = some y := hf
      unfold tX10_alongMemory_131 at hf
      have K0 := pm_S3.rf h
      by_cases c42 : x2 = 311
      · have hf := pm_it hf c42
        obtain ⟨k43, hf⟩ := pm_if hf
        obtain ⟨v44, e45, hf⟩ := pm_bd hf
        obtain ⟨k46, hf⟩ := pm_if hf
        obtain ⟨v47, e48, hf⟩ := pm_bd hf
        have K49 := pm_S3.trans (kpX6_fill e48) K0
        by_cases c50 : x2 = 308
        · have hf := pm_it hf c50
          obtain ⟨k51, hf⟩ := pm_if hf
          obtain ⟨v52, e53, hf⟩ := pm_bd hf
          obtain ⟨k54, hf⟩ := pm_if hf
          obtain ⟨v55, e56, hf⟩ := pm_bd hf
          obtain ⟨v57, e58, hf⟩ := pm_bd hf
          obtain ⟨v59, e60, hf⟩ := pm_bd hf
          obtain ⟨y61, e62, hf⟩ := pm_lt hf
          cases hf
          exact pm_S3.trans (ih.2.2.2 x0 x4 x8 x10 v55 y61 0 v47 hi) K49
        · have hf := pm_ie hf c50
          cases hf
          cases hi
          exact K49
      · have hf := pm_ie hf c42
        by_cases c63 : x2 = 308
        · have hf := pm_it hf c63
          obtain ⟨k64, hf⟩ := pm_if hf
          obtain ⟨v65, e66, hf⟩ := pm_bd hf
          obtain ⟨k67, hf⟩ := pm_if hf
          obtain ⟨v68, e69, hf⟩ := pm_bd hf
          obtain ⟨v70, e71, hf⟩ := pm_bd hf
          obtain ⟨v72, e73, hf⟩ := pm_bd hf
          obtain ⟨y74, e75, hf⟩ := pm_lt hf
          cases hf
          exact pm_S3.trans (ih.2.2.2 x0 x4 x8 x10 v68 y74 0 h hi) K0
        · have hf := pm_ie hf c63
          cases hf
          cases hi
          exact K0
    refine fun x0 x4 x8 x10 x12 x13 x15 h hf => ?_
    obtain ⟨y, hf, hi⟩ := pm_iter_s hf
    have hf : tX10_alongMemory_195 x0 x4 x8 x10 x12 x13 x15 h = some y := hf
    unfold tX10_alongMemory_195 at hf
    have K0 := pm_S3.rf h
    by_cases c76 : x8 ≤ x15
    · have hf := pm_it hf c76
      cases hf
      cases hi
      exact K0
    · have hf := pm_ie hf c76
      by_cases c77 : x13 < 0
      · have hf := pm_it hf c77
        cases hf
        cases hi
        exact K0
      · have hf := pm_ie hf c77
        obtain ⟨k78, hf⟩ := pm_if hf
        by_cases c79 : ((Int32.ofNat (pm_ln h x12)).toInt64) ≤ (x13 + x15)
        · have hf := pm_it hf c79
          cases hf
          cases hi
          exact K0
        · have hf := pm_ie hf c79
          obtain ⟨k80, hf⟩ := pm_if hf
          obtain ⟨v81, e82, hf⟩ := pm_bd hf
          obtain ⟨y83, e84, hf⟩ := pm_lt hf
          obtain ⟨u85, hf⟩ := pm_if hf
          obtain ⟨k86, hf⟩ := pm_if hf
          obtain ⟨v87, e88, hf⟩ := pm_bd hf
          have K89 := pm_S3.trans (kpX6_setByte e88) K0
          obtain ⟨y90, e91, hf⟩ := pm_lt hf
          cases hf
          exact pm_S3.trans (ih.2.2.2 x0 x4 x8 x10 x12 x13 y90 v87 hi) K89
set_option maxHeartbeats 4000000 in
set_option maxRecDepth 100000 in
theorem kpX10_alongMemory {h : pm_H} {a0 : Nat} {p1 : Nat} {p2 : Int32} {p3 : Int32} {p4 : Int64} {p5 : Int64} {p6 : Int64} {r : (Int64 × pm_H)} (hf : fX10_alongMemory h a0 p1 p2 p3 p4 p5 p6 = some r) : pm_S3 r.2 h := by
  unfold fX10_alongMemory at hf
  have K0 := pm_S3.rf h
  obtain ⟨k1, hf⟩ := pm_if hf
  obtain ⟨v2, e3, hf⟩ := pm_bd hf
  obtain ⟨v4, e5, hf⟩ := pm_bd hf
  by_cases c6 : p2 = 309
  · have hf := pm_it hf c6
    obtain ⟨v7, e8, hf⟩ := pm_bd hf
    obtain ⟨v9, e10, hf⟩ := pm_bd hf
    have K11 := pm_S3.trans (kpX12_setItem e10) K0
    cases hf
    exact K11
  · have hf := pm_ie hf c6
    obtain ⟨k12, hf⟩ := pm_if hf
    obtain ⟨v13, e14, hf⟩ := pm_bd hf
    obtain ⟨k15, hf⟩ := pm_if hf
    obtain ⟨v16, e17, hf⟩ := pm_bd hf
    by_cases c18 : p2 = 308
    · have hf := pm_it hf c18
      obtain ⟨v19, e20, hf⟩ := pm_bd hf
      obtain ⟨v21, e22, hf⟩ := pm_bd hf
      by_cases c23 : (p5 + p6) ≤ v21.toInt64
      · have hf := pm_it hf c23
        obtain ⟨n, hn⟩ := pm_lim_iter hf
        exact pm_S3.trans ((klX10_alongMemory n).1 a0 p1 p2 p3 p4 p5 p6 v4 v16 h hn) K0
      · have hf := pm_ie hf c23
        obtain ⟨n, hn⟩ := pm_lim_iter hf
        exact pm_S3.trans ((klX10_alongMemory n).1 a0 p1 p2 p3 p4 p5 p6 v4 0 h hn) K0
    · have hf := pm_ie hf c18
      obtain ⟨n, hn⟩ := pm_lim_iter hf
      exact pm_S3.trans ((klX10_alongMemory n).1 a0 p1 p2 p3 p4 p5 p6 v4 v16 h hn) K0
set_option maxHeartbeats 4000000 in
set_option maxRecDepth 100000 in
theorem kpX11_fill_b31 {h : pm_H} {x0 : Nat} {x1 : Int32} {x2 : Int64} {x4 : Int32} {x5 : Int64} {s0 : Int32} {r : pm_H} (hf : fX11_fill_b31 h x0 x1 x2 x4 x5 s0 = some r) : pm_S3 r h := by
  unfold fX11_fill_b31 at hf
  have K0 := pm_S3.rf h
  by_cases c9 : s0 = 0
  · have hf := pm_it hf c9
    cases hf
    exact K0
  · have hf := pm_ie hf c9
    obtain ⟨k10, hf⟩ := pm_if hf
    obtain ⟨v11, e12, hf⟩ := pm_bd hf
    obtain ⟨k13, hf⟩ := pm_if hf
    obtain ⟨u14, hf⟩ := pm_if hf
    obtain ⟨v15, e16, hf⟩ := pm_bd hf
    obtain ⟨k17, hf⟩ := pm_if hf
    by_cases c18 : (x2 + x5) ≤ ((Int32.ofNat (pm_ln h v15)).toInt64)
    · have hf := pm_it hf c18
      obtain ⟨u19, hf⟩ := pm_if hf
      obtain ⟨v20, e21, hf⟩ := pm_bd hf
      obtain ⟨v22, e23, hf⟩ := pm_bd hf
      have K24 := pm_S3.trans (kpJ7_fill_fda19 e23) K0
      cases hf
      exact K24
    · have hf := pm_ie hf c18
      cases hf
      exact K0
set_option maxHeartbeats 4000000 in
set_option maxRecDepth 100000 in
theorem kpX11_fill_b30 {h : pm_H} {x0 : Nat} {x1 : Int32} {x2 : Int64} {x4 : Int32} {x5 : Int64} {r : pm_H} (hf : fX11_fill_b30 h x0 x1 x2 x4 x5 = some r) : pm_S3 r h := by
  unfold fX11_fill_b30 at hf
  have K0 := pm_S3.rf h
  exact pm_S3.trans (kpX11_fill_b31 hf) K0
set_option maxHeartbeats 4000000 in
set_option maxRecDepth 100000 in
theorem kpX11_fill {h : pm_H} {a0 : Nat} {p1 : Int32} {p2 : Int64} {p3 : Int32} {p4 : Int64} {r : pm_H} (hf : fX11_fill h a0 p1 p2 p3 p4 = some r) : pm_S3 r h := by
  unfold fX11_fill at hf
  have K0 := pm_S3.rf h
  by_cases c1 : p1 < 0
  · have hf := pm_it hf c1
    exact pm_S3.trans (kpX11_fill_b30 hf) K0
  · have hf := pm_ie hf c1
    obtain ⟨k2, hf⟩ := pm_if hf
    obtain ⟨v3, e4, hf⟩ := pm_bd hf
    obtain ⟨k5, hf⟩ := pm_if hf
    by_cases c6 : (Int32.ofNat (pm_ln h v3)) ≤ p1
    · have hf := pm_it hf c6
      exact pm_S3.trans (kpX11_fill_b30 hf) K0
    · have hf := pm_ie hf c6
      by_cases c7 : p2 < 0
      · have hf := pm_it hf c7
        exact pm_S3.trans (kpX11_fill_b30 hf) K0
      · have hf := pm_ie hf c7
        by_cases c8 : p4 < 0
        · have hf := pm_it hf c8
          exact pm_S3.trans (kpX11_fill_b30 hf) K0
        · have hf := pm_ie hf c8
          exact pm_S3.trans (kpX11_fill_b31 hf) K0
set_option maxHeartbeats 4000000 in
set_option maxRecDepth 100000 in
theorem kpX5_goFreely {h : pm_H} {a0 : Nat} {p1 : Int32} {r : pm_H} (hf : fX5_goFreely h a0 p1 = some r) : pm_S3 r h := by
  unfold fX5_goFreely at hf
  have K0 := pm_S3.rf h
  obtain ⟨k1, hf⟩ := pm_if hf
  obtain ⟨v2, e3, hf⟩ := pm_bd hf
  obtain ⟨k4, hf⟩ := pm_if hf
  obtain ⟨v5, e6, hf⟩ := pm_bd hf
  obtain ⟨v7, e8, hf⟩ := pm_bd hf
  by_cases c9 : v7 = 11
  · have hf := pm_it hf c9
    obtain ⟨v10, e11, hf⟩ := pm_bd hf
    have K12 := pm_S3.trans (kpX5_leave e11) K0
    cases hf
    exact K12
  · have hf := pm_ie hf c9
    by_cases c13 : v7 = 5
    · have hf := pm_it hf c13
      obtain ⟨v14, e15, hf⟩ := pm_bd hf
      cases hf
      exact K0
    · have hf := pm_ie hf c13
      by_cases c16 : v7 = 500
      · have hf := pm_it hf c16
        obtain ⟨v17, e18, hf⟩ := pm_bd hf
        obtain ⟨y19, e20, hf⟩ := pm_lt hf
        obtain ⟨v21, e22, hf⟩ := pm_bd hf
        obtain ⟨v23, e24, hf⟩ := pm_bd hf
        obtain ⟨v25, e26, hf⟩ := pm_bd hf
        obtain ⟨v27, e28, hf⟩ := pm_bd hf
        have K29 := pm_S3.trans (kpX12_setItem_ e28) K0
        cases hf
        exact K29
      · have hf := pm_ie hf c16
        cases hf
        exact K0
set_option maxHeartbeats 4000000 in
set_option maxRecDepth 100000 in
theorem kpX9_exportOne {h : pm_H} {a0 : Nat} {r : pm_H} (hf : fX9_exportOne h a0 = some r) : pm_S3 r h := by
  unfold fX9_exportOne at hf
  have K0 := pm_S3.rf h
  obtain ⟨k1, hf⟩ := pm_if hf
  obtain ⟨y2, e3, hf⟩ := pm_lt hf
  obtain ⟨v4, e5, hf⟩ := pm_bd hf
  have K6 := pm_S3.trans (kpX9_name e5) K0
  obtain ⟨k7, hf⟩ := pm_if hf
  obtain ⟨v8, e9, hf⟩ := pm_bd hf
  obtain ⟨k10, hf⟩ := pm_if hf
  obtain ⟨v11, e12, hf⟩ := pm_bd hf
  obtain ⟨v13, e14, hf⟩ := pm_bd hf
  have K15 := pm_S3.trans (kpX12_setItem e14) K6
  obtain ⟨k16, hf⟩ := pm_if hf
  obtain ⟨v17, e18, hf⟩ := pm_bd hf
  obtain ⟨k19, hf⟩ := pm_if hf
  obtain ⟨v20, e21, hf⟩ := pm_bd hf
  obtain ⟨v22, e23, hf⟩ := pm_bd hf
  have K24 := pm_S3.trans (kpX12_setItem e23) K15
  obtain ⟨k25, hf⟩ := pm_if hf
  obtain ⟨v26, e27, hf⟩ := pm_bd hf
  obtain ⟨k28, hf⟩ := pm_if hf
  obtain ⟨v29, e30, hf⟩ := pm_bd hf
  obtain ⟨v31, e32, hf⟩ := pm_bd hf
  have K33 := pm_S3.trans (kpX9_nextUpTo e32) K24
  obtain ⟨v34, e35, hf⟩ := pm_bd hf
  have K36 := pm_S3.trans (kpX12_setItem e35) K33
  obtain ⟨k37, hf⟩ := pm_if hf
  obtain ⟨v38, e39, hf⟩ := pm_bd hf
  obtain ⟨k40, hf⟩ := pm_if hf
  obtain ⟨v41, e42, hf⟩ := pm_bd hf
  obtain ⟨v43, e44, hf⟩ := pm_bd hf
  have K45 := pm_S3.trans (kpX9_number e44) K36
  obtain ⟨v46, e47, hf⟩ := pm_lt hf
  obtain ⟨v48, e49, hf⟩ := pm_bd hf
  have K50 := pm_S3.trans (kpX12_setItem e49) K45
  cases hf
  exact K50
set_option maxHeartbeats 4000000 in
set_option maxRecDepth 100000 in
theorem kpX9_importOne {h : pm_H} {a0 : Nat} {r : pm_H} (hf : fX9_importOne h a0 = some r) : pm_S3 r h := by
  unfold fX9_importOne at hf
  have K0 := pm_S3.rf h
  obtain ⟨k1, hf⟩ := pm_if hf
  obtain ⟨v2, e3, hf⟩ := pm_bd hf
  have K4 := pm_S3.trans (kpX9_name e3) K0
  obtain ⟨k5, hf⟩ := pm_if hf
  obtain ⟨v6, e7, hf⟩ := pm_bd hf
  have K8 := pm_S3.trans (kpX9_name e7) K4
  obtain ⟨k9, hf⟩ := pm_if hf
  obtain ⟨v10, e11, hf⟩ := pm_bd hf
  have K12 := pm_S3.trans (kpX9_nextUpTo e11) K8
  obtain ⟨k13, hf⟩ := pm_if hf
  obtain ⟨v14, e15, hf⟩ := pm_bd hf
  obtain ⟨k16, hf⟩ := pm_if hf
  obtain ⟨v17, e18, hf⟩ := pm_bd hf
  obtain ⟨v19, e20, hf⟩ := pm_bd hf
  have K21 := pm_S3.trans (kpX9_describe e20) K12
  cases hf
  exact K21
set_option maxHeartbeats 4000000 in
set_option maxRecDepth 100000 in
theorem kpX9_instruction_b123 {h : pm_H} {x0 : Nat} {r : pm_H} (hf : fX9_instruction_b123 h x0 = some r) : pm_S3 r h := by
  unfold fX9_instruction_b123 at hf
  have K0 := pm_S3.rf h
  obtain ⟨k37, hf⟩ := pm_if hf
  obtain ⟨y38, e39, hf⟩ := pm_lt hf
  by_cases c40 : y38 = 0
  · have hf := pm_it hf c40
    cases hf
    exact K0
  have hf := pm_ie hf c40
  by_cases c41 : y38 = 1
  · have hf := pm_it hf c41
    cases hf
    exact K0
  have hf := pm_ie hf c41
  by_cases c42 : y38 = 2
  · have hf := pm_it hf c42
    obtain ⟨v43, e44, hf⟩ := pm_bd hf
    have K45 := pm_S3.trans (kpX9_blockType e44) K0
    obtain ⟨k46, hf⟩ := pm_if hf
    cases hf
    exact K45
  have hf := pm_ie hf c42
  by_cases c47 : y38 = 3
  · have hf := pm_it hf c47
    obtain ⟨v48, e49, hf⟩ := pm_bd hf
    have K50 := pm_S3.trans (kpX9_blockType e49) K0
    obtain ⟨k51, hf⟩ := pm_if hf
    cases hf
    exact K50
  have hf := pm_ie hf c47
  by_cases c52 : y38 = 4
  · have hf := pm_it hf c52
    obtain ⟨v53, e54, hf⟩ := pm_bd hf
    have K55 := pm_S3.trans (kpX9_blockType e54) K0
    obtain ⟨k56, hf⟩ := pm_if hf
    cases hf
    exact K55
  have hf := pm_ie hf c52
  by_cases c57 : y38 = 5
  · have hf := pm_it hf c57
    cases hf
    exact K0
  have hf := pm_ie hf c57
  by_cases c58 : y38 = 11
  · have hf := pm_it hf c58
    cases hf
    exact K0
  have hf := pm_ie hf c58
  by_cases c59 : y38 = 12
  · have hf := pm_it hf c59
    obtain ⟨v60, e61, hf⟩ := pm_bd hf
    have K62 := pm_S3.trans (kpX9_number e61) K0
    obtain ⟨k63, hf⟩ := pm_if hf
    cases hf
    exact K62
  have hf := pm_ie hf c59
  by_cases c64 : y38 = 13
  · have hf := pm_it hf c64
    obtain ⟨v65, e66, hf⟩ := pm_bd hf
    have K67 := pm_S3.trans (kpX9_number e66) K0
    obtain ⟨k68, hf⟩ := pm_if hf
    cases hf
    exact K67
  have hf := pm_ie hf c64
  by_cases c69 : y38 = 14
  · have hf := pm_it hf c69
    obtain ⟨v70, e71, hf⟩ := pm_bd hf
    have K72 := pm_S3.trans (kpX9_labels e71) K0
    cases hf
    exact K72
  have hf := pm_ie hf c69
  by_cases c73 : y38 = 15
  · have hf := pm_it hf c73
    cases hf
    exact K0
  have hf := pm_ie hf c73
  by_cases c74 : y38 = 16
  · have hf := pm_it hf c74
    obtain ⟨v75, e76, hf⟩ := pm_bd hf
    have K77 := pm_S3.trans (kpX9_number e76) K0
    obtain ⟨k78, hf⟩ := pm_if hf
    cases hf
    exact K77
  have hf := pm_ie hf c74
  by_cases c79 : y38 = 26
  · have hf := pm_it hf c79
    cases hf
    exact K0
  have hf := pm_ie hf c79
  by_cases c80 : y38 = 27
  · have hf := pm_it hf c80
    cases hf
    exact K0
  have hf := pm_ie hf c80
  by_cases c81 : y38 = 28
  · have hf := pm_it hf c81
    obtain ⟨v82, e83, hf⟩ := pm_bd hf
    have K84 := pm_S3.trans (kpX9_selected e83) K0
    cases hf
    exact K84
  have hf := pm_ie hf c81
  by_cases c85 : y38 = 63
  · have hf := pm_it hf c85
    obtain ⟨v86, e87, hf⟩ := pm_bd hf
    have K88 := pm_S3.trans (kpX9_nextUpTo e87) K0
    cases hf
    exact K88
  have hf := pm_ie hf c85
  by_cases c89 : y38 = 64
  · have hf := pm_it hf c89
    obtain ⟨v90, e91, hf⟩ := pm_bd hf
    have K92 := pm_S3.trans (kpX9_nextUpTo e91) K0
    cases hf
    exact K92
  have hf := pm_ie hf c89
  by_cases c93 : y38 = 65
  · have hf := pm_it hf c93
    obtain ⟨v94, e95, hf⟩ := pm_bd hf
    have K96 := pm_S3.trans (kpX9_number e95) K0
    obtain ⟨y97, e98, hf⟩ := pm_lt hf
    obtain ⟨k99, hf⟩ := pm_if hf
    cases hf
    exact K96
  have hf := pm_ie hf c93
  by_cases c100 : y38 = 66
  · have hf := pm_it hf c100
    obtain ⟨v101, e102, hf⟩ := pm_bd hf
    have K103 := pm_S3.trans (kpX9_number e102) K0
    obtain ⟨k104, hf⟩ := pm_if hf
    cases hf
    exact K103
  have hf := pm_ie hf c100
  by_cases c105 : y38 = 67
  · have hf := pm_it hf c105
    obtain ⟨v106, e107, hf⟩ := pm_bd hf
    have K108 := pm_S3.trans (kpX9_lowestFirst e107) K0
    obtain ⟨k109, hf⟩ := pm_if hf
    cases hf
    exact K108
  have hf := pm_ie hf c105
  by_cases c110 : y38 = 68
  · have hf := pm_it hf c110
    obtain ⟨v111, e112, hf⟩ := pm_bd hf
    have K113 := pm_S3.trans (kpX9_lowestFirst e112) K0
    obtain ⟨k114, hf⟩ := pm_if hf
    cases hf
    exact K113
  have hf := pm_ie hf c110
  by_cases c115 : y38 = 208
  · have hf := pm_it hf c115
    obtain ⟨v116, e117, hf⟩ := pm_bd hf
    have K118 := pm_S3.trans (kpX9_referenceType e117) K0
    obtain ⟨k119, hf⟩ := pm_if hf
    cases hf
    exact K118
  have hf := pm_ie hf c115
  by_cases c120 : y38 = 209
  · have hf := pm_it hf c120
    cases hf
    exact K0
  have hf := pm_ie hf c120
  by_cases c121 : y38 = 210
  · have hf := pm_it hf c121
    obtain ⟨v122, e123, hf⟩ := pm_bd hf
    have K124 := pm_S3.trans (kpX9_number e123) K0
    obtain ⟨k125, hf⟩ := pm_if hf
    cases hf
    exact K124
  have hf := pm_ie hf c121
  by_cases c126 : y38 = 252
  · have hf := pm_it hf c126
    obtain ⟨v127, e128, hf⟩ := pm_bd hf
    have K129 := pm_S3.trans (kpX9_longInstruction e128) K0
    cases hf
    exact K129
  have hf := pm_ie hf c126
  obtain ⟨v130, e131, hf⟩ := pm_bd hf
  have K132 := pm_S3.trans (kpX9_fail e131) K0
  cases hf
  exact K132
set_option maxHeartbeats 4000000 in
set_option maxRecDepth 100000 in
theorem kpX9_instruction_b64 {h : pm_H} {x0 : Nat} {r : pm_H} (hf : fX9_instruction_b64 h x0 = some r) : pm_S3 r h := by
  unfold fX9_instruction_b64 at hf
  have K0 := pm_S3.rf h
  obtain ⟨k21, hf⟩ := pm_if hf
  by_cases c22 : (pm_I h x0 6) = 17
  · have hf := pm_it hf c22
    obtain ⟨v23, e24, hf⟩ := pm_bd hf
    have K25 := pm_S3.trans (kpX9_number e24) K0
    obtain ⟨k26, hf⟩ := pm_if hf
    obtain ⟨v27, e28, hf⟩ := pm_bd hf
    have K29 := pm_S3.trans (kpX9_number e28) K25
    obtain ⟨k30, hf⟩ := pm_if hf
    cases hf
    exact K29
  · have hf := pm_ie hf c22
    by_cases c31 : (pm_I h x0 6) < 32
    · have hf := pm_it hf c31
      exact pm_S3.trans (kpX9_instruction_b123 hf) K0
    · have hf := pm_ie hf c31
      by_cases c32 : 38 < (pm_I h x0 6)
      · have hf := pm_it hf c32
        exact pm_S3.trans (kpX9_instruction_b123 hf) K0
      · have hf := pm_ie hf c32
        obtain ⟨v33, e34, hf⟩ := pm_bd hf
        have K35 := pm_S3.trans (kpX9_number e34) K0
        obtain ⟨k36, hf⟩ := pm_if hf
        cases hf
        exact K35
set_option maxHeartbeats 4000000 in
set_option maxRecDepth 100000 in
theorem kpX9_instruction_b46 {h : pm_H} {x0 : Nat} {r : pm_H} (hf : fX9_instruction_b46 h x0 = some r) : pm_S3 r h := by
  unfold fX9_instruction_b46 at hf
  have K0 := pm_S3.rf h
  obtain ⟨k10, hf⟩ := pm_if hf
  by_cases c11 : (pm_I h x0 6) < 40
  · have hf := pm_it hf c11
    exact pm_S3.trans (kpX9_instruction_b64 hf) K0
  · have hf := pm_ie hf c11
    by_cases c12 : (pm_I h x0 6) ≤ 62
    · have hf := pm_it hf c12
      obtain ⟨v13, e14, hf⟩ := pm_bd hf
      have K15 := pm_S3.trans (kpX9_number e14) K0
      obtain ⟨k16, hf⟩ := pm_if hf
      obtain ⟨v17, e18, hf⟩ := pm_bd hf
      have K19 := pm_S3.trans (kpX9_number e18) K15
      obtain ⟨k20, hf⟩ := pm_if hf
      cases hf
      exact K19
    · have hf := pm_ie hf c12
      exact pm_S3.trans (kpX9_instruction_b64 hf) K0
set_option maxHeartbeats 4000000 in
set_option maxRecDepth 100000 in
theorem kpX9_instruction {h : pm_H} {a0 : Nat} {r : pm_H} (hf : fX9_instruction h a0 = some r) : pm_S3 r h := by
  unfold fX9_instruction at hf
  have K0 := pm_S3.rf h
  obtain ⟨k1, hf⟩ := pm_if hf
  obtain ⟨y2, e3, hf⟩ := pm_lt hf
  obtain ⟨v4, e5, hf⟩ := pm_bd hf
  have K6 := pm_S3.trans (kpX9_next e5) K0
  obtain ⟨k7, hf⟩ := pm_if hf
  by_cases c8 : (pm_I (pm_setL (pm_setL (pm_setI v4.2 a0 6 v4.1) a0 8 0) a0 9 0) a0 6) < 69
  · have hf := pm_it hf c8
    exact pm_S3.trans (kpX9_instruction_b46 hf) K6
  · have hf := pm_ie hf c8
    by_cases c9 : 196 < (pm_I (pm_setL (pm_setL (pm_setI v4.2 a0 6 v4.1) a0 8 0) a0 9 0) a0 6)
    · have hf := pm_it hf c9
      exact pm_S3.trans (kpX9_instruction_b46 hf) K6
    · have hf := pm_ie hf c9
      cases hf
      exact K6
set_option maxHeartbeats 4000000 in
set_option maxRecDepth 100000 in
theorem kpX10_constant {h : pm_H} {a0 : Nat} {p1 : Nat} {r : (Int64 × pm_H)} (hf : fX10_constant h a0 p1 = some r) : pm_S3 r.2 h := by
  unfold fX10_constant at hf
  have K0 := pm_S3.rf h
  obtain ⟨k1, hf⟩ := pm_if hf
  obtain ⟨v2, e3, hf⟩ := pm_bd hf
  obtain ⟨k4, hf⟩ := pm_if hf
  obtain ⟨v5, e6, hf⟩ := pm_bd hf
  have K7 := pm_S3.trans (kpX9_instruction e6) K0
  obtain ⟨k8, hf⟩ := pm_if hf
  obtain ⟨v9, e10, hf⟩ := pm_bd hf
  obtain ⟨k11, hf⟩ := pm_if hf
  obtain ⟨y12, e13, hf⟩ := pm_lt hf
  obtain ⟨v14, e15, hf⟩ := pm_lt hf
  obtain ⟨y16, e17, hf⟩ := pm_lt hf
  obtain ⟨v18, e19, hf⟩ := pm_bd hf
  have K20 := pm_S3.trans (kpX9_instruction e19) K7
  by_cases c21 : y12 = 208
  · have hf := pm_it hf c21
    cases hf
    exact K20
  · have hf := pm_ie hf c21
    by_cases c22 : y12 = 210
    · have hf := pm_it hf c22
      obtain ⟨k23, hf⟩ := pm_if hf
      obtain ⟨v24, e25, hf⟩ := pm_bd hf
      obtain ⟨v26, e27, hf⟩ := pm_bd hf
      cases hf
      exact K20
    · have hf := pm_ie hf c22
      by_cases c28 : y12 = 35
      · have hf := pm_it hf c28
        obtain ⟨k29, hf⟩ := pm_if hf
        obtain ⟨v30, e31, hf⟩ := pm_bd hf
        obtain ⟨k32, hf⟩ := pm_if hf
        obtain ⟨v33, e34, hf⟩ := pm_bd hf
        obtain ⟨v35, e36, hf⟩ := pm_bd hf
        obtain ⟨v37, e38, hf⟩ := pm_bd hf
        cases hf
        exact K20
      · have hf := pm_ie hf c28
        cases hf
        exact K20
set_option maxHeartbeats 4000000 in
set_option maxRecDepth 100000 in
theorem klX1_constant {r : pm_H} : ∀ n : Nat, (∀ (x0 : Nat) (x1 : Int32) (x2 : Int32) (x3 : Int32) (x4 : Int32) (x5 : Int32) (h : pm_H), pm_iter sX1_constant n (.inl (x0, x1, x2, x3, x4, x5, h)) = some r → pm_S3 r h) ∧ (∀ (x0 : Nat) (x1 : Int32) (x2 : Int32) (x3 : Int32) (x4 : Int32) (h : pm_H), pm_iter sX1_constant n (.inr (.inl (x0, x1, x2, x3, x4, h))) = some r → pm_S3 r h) ∧ (∀ (x0 : Nat) (x1 : Int32) (x2 : Int32) (x3 : Int32) (x4 : Int32) (x5 : Int32) (h : pm_H), pm_iter sX1_constant n (.inr (.inr (.inl (x0, x1, x2, x3, x4, x5, h)))) = some r → pm_S3 r h) ∧ (∀ (x0 : Nat) (x1 : Int32) (x2 : Int32) (x3 : Int32) (x4 : Int32) (x5 : Int32) (h : pm_H), pm_iter sX1_constant n (.inr (.inr (.inr (x0, x1, x2, x3, x4, x5, h)))) = some r → pm_S3 r h) := by
  intro n
  induction n with
  | zero => exact ⟨fun _ _ _ _ _ _ _ hf => (by cases hf), fun _ _ _ _ _ _ hf => (by cases hf), fun _ _ _ _ _ _ _ hf => (by cases hf), fun _ _ _ _ _ _ _ hf => (by cases hf)⟩
  | succ n ih =>
    refine ⟨fun x0 x1 x2 x3 x4 x5 h hf => ?_, ?_⟩
    · obtain ⟨y, hf, hi⟩ := pm_iter_s hf
      have hf : tX1_constant_10 x0 x1 x2 x3 x4 x5 h = some y := hf
      unfold tX1_constant_10 at hf
      have K0 := pm_S3.rf h
      obtain ⟨k1, hf⟩ := pm_if hf
      obtain ⟨v2, e3, hf⟩ := pm_bd hf
      obtain ⟨k4, hf⟩ := pm_if hf
      obtain ⟨v5, e6, hf⟩ := pm_bd hf
      obtain ⟨k7, hf⟩ := pm_if hf
      by_cases c8 : (Int32.ofNat (pm_ln h v5)) < x5
      · have hf := pm_it hf c8
        cases hf
        exact pm_S3.trans (ih.2.1 x0 x1 x2 x3 x4 h hi) K0
      · have hf := pm_ie hf c8
        by_cases c9 : (pm_I h x0 0) = 0
        · have hf := pm_it hf c9
          obtain ⟨v10, e11, hf⟩ := pm_bd hf
          obtain ⟨k12, hf⟩ := pm_if hf
          obtain ⟨v13, e14, hf⟩ := pm_bd hf
          have K15 := pm_S3.trans (kpX9_instruction e14) K0
          obtain ⟨k16, hf⟩ := pm_if hf
          obtain ⟨v17, e18, hf⟩ := pm_bd hf
          obtain ⟨k19, hf⟩ := pm_if hf
          by_cases c20 : (pm_I v13 v17 6) = 11
          · have hf := pm_it hf c20
            cases hf
            exact pm_S3.trans (ih.2.1 x0 x1 x2 x3 x4 v13 hi) K15
          · have hf := pm_ie hf c20
            obtain ⟨v21, e22, hf⟩ := pm_bd hf
            by_cases c23 : v21 = 0
            · have hf := pm_it hf c23
              obtain ⟨v24, e25, hf⟩ := pm_bd hf
              have K26 := pm_S3.trans (kpX1_fail e25) K15
              cases hf
              exact pm_S3.trans (ih.2.2.1 x0 x1 x2 v21 x4 x5 v24 hi) K26
            · have hf := pm_ie hf c23
              cases hf
              exact pm_S3.trans (ih.2.2.1 x0 x1 x2 v21 x4 x5 v13 hi) K15
        · have hf := pm_ie hf c9
          cases hf
          exact pm_S3.trans (ih.2.1 x0 x1 x2 x3 x4 h hi) K0
    refine ⟨fun x0 x1 x2 x3 x4 h hf => ?_, ?_⟩
    · obtain ⟨y, hf, hi⟩ := pm_iter_s hf
      have hf : tX1_constant_145 x0 x1 x2 x3 x4 h = some y := hf
      unfold tX1_constant_145 at hf
      have K0 := pm_S3.rf h
      by_cases c27 : x4 < 0
      · have hf := pm_it hf c27
        by_cases c28 : x2 = 1
        · have hf := pm_it hf c28
          by_cases c29 : x3 = x1
          · have hf := pm_it hf c29
            cases hf
            cases hi
            exact K0
          · have hf := pm_ie hf c29
            obtain ⟨k30, hf⟩ := pm_if hf
            obtain ⟨v31, e32, hf⟩ := pm_bd hf
            have K33 := pm_S3.trans (kpX1_fail e32) K0
            cases hf
            cases hi
            exact K33
        · have hf := pm_ie hf c28
          obtain ⟨k34, hf⟩ := pm_if hf
          obtain ⟨v35, e36, hf⟩ := pm_bd hf
          have K37 := pm_S3.trans (kpX1_fail e36) K0
          cases hf
          cases hi
          exact K37
      · have hf := pm_ie hf c27
        obtain ⟨k38, hf⟩ := pm_if hf
        obtain ⟨v39, e40, hf⟩ := pm_bd hf
        have K41 := pm_S3.trans (kpX1_failAt e40) K0
        by_cases c42 : x2 = 1
        · have hf := pm_it hf c42
          by_cases c43 : x3 = x1
          · have hf := pm_it hf c43
            cases hf
            cases hi
            exact K41
          · have hf := pm_ie hf c43
            obtain ⟨k44, hf⟩ := pm_if hf
            obtain ⟨v45, e46, hf⟩ := pm_bd hf
            have K47 := pm_S3.trans (kpX1_fail e46) K41
            cases hf
            cases hi
            exact K47
        · have hf := pm_ie hf c42
          obtain ⟨k48, hf⟩ := pm_if hf
          obtain ⟨v49, e50, hf⟩ := pm_bd hf
          have K51 := pm_S3.trans (kpX1_fail e50) K41
          cases hf
          cases hi
          exact K51
    refine ⟨fun x0 x1 x2 x3 x4 x5 h hf => ?_, ?_⟩
    · obtain ⟨y, hf, hi⟩ := pm_iter_s hf
      have hf : tX1_constant_67 x0 x1 x2 x3 x4 x5 h = some y := hf
      unfold tX1_constant_67 at hf
      have K0 := pm_S3.rf h
      obtain ⟨k52, hf⟩ := pm_if hf
      obtain ⟨v53, e54, hf⟩ := pm_bd hf
      obtain ⟨k55, hf⟩ := pm_if hf
      by_cases c56 : (pm_I h v53 6) = 210
      · have hf := pm_it hf c56
        obtain ⟨v57, e58, hf⟩ := pm_bd hf
        obtain ⟨k59, hf⟩ := pm_if hf
        obtain ⟨v60, e61, hf⟩ := pm_bd hf
        by_cases c62 : v60 = 0
        · have hf := pm_it hf c62
          by_cases c63 : 0 ≤ x4
          · have hf := pm_it hf c63
            cases hf
            exact pm_S3.trans (ih.2.2.2 x0 x1 x2 x3 x4 x5 h hi) K0
          · have hf := pm_ie hf c63
            obtain ⟨y64, e65, hf⟩ := pm_lt hf
            cases hf
            exact pm_S3.trans (ih.2.2.2 x0 x1 x2 x3 y64 x5 h hi) K0
        · have hf := pm_ie hf c62
          cases hf
          exact pm_S3.trans (ih.2.2.2 x0 x1 x2 x3 x4 x5 h hi) K0
      · have hf := pm_ie hf c56
        cases hf
        exact pm_S3.trans (ih.2.2.2 x0 x1 x2 x3 x4 x5 h hi) K0
    refine fun x0 x1 x2 x3 x4 x5 h hf => ?_
    obtain ⟨y, hf, hi⟩ := pm_iter_s hf
    have hf : tX1_constant_112 x0 x1 x2 x3 x4 x5 h = some y := hf
    unfold tX1_constant_112 at hf
    have K0 := pm_S3.rf h
    obtain ⟨k66, hf⟩ := pm_if hf
    obtain ⟨v67, e68, hf⟩ := pm_bd hf
    obtain ⟨k69, hf⟩ := pm_if hf
    by_cases c70 : (pm_I h v67 6) = 210
    · have hf := pm_it hf c70
      obtain ⟨v71, e72, hf⟩ := pm_bd hf
      have K73 := pm_S3.trans (kpX1_declare e72) K0
      obtain ⟨y74, e75, hf⟩ := pm_lt hf
      obtain ⟨y76, e77, hf⟩ := pm_lt hf
      cases hf
      exact pm_S3.trans (ih.1 x0 x1 y74 x3 x4 y76 v71 hi) K73
    · have hf := pm_ie hf c70
      obtain ⟨y78, e79, hf⟩ := pm_lt hf
      obtain ⟨y80, e81, hf⟩ := pm_lt hf
      cases hf
      exact pm_S3.trans (ih.1 x0 x1 y78 x3 x4 y80 h hi) K0
set_option maxHeartbeats 4000000 in
set_option maxRecDepth 100000 in
theorem kpX1_constant {h : pm_H} {a0 : Nat} {p1 : Int32} {r : pm_H} (hf : fX1_constant h a0 p1 = some r) : pm_S3 r h := by
  unfold fX1_constant at hf
  have K0 := pm_S3.rf h
  obtain ⟨n, hn⟩ := pm_lim_iter hf
  exact pm_S3.trans ((klX1_constant n).1 a0 p1 0 0 (-1) 0 h hn) K0
set_option maxHeartbeats 4000000 in
set_option maxRecDepth 100000 in
theorem klX1_dataAreRight {r : pm_H} : ∀ n : Nat, (∀ (x0 : Nat) (x1 : Int32) (h : pm_H), pm_iter sX1_dataAreRight n (x0, x1, h) = some r → pm_S3 r h) := by
  intro n
  induction n with
  | zero => exact fun _ _ _ hf => (by cases hf)
  | succ n ih =>
    refine fun x0 x1 h hf => ?_
    obtain ⟨y, hf, hi⟩ := pm_iter_s hf
    have hf : tX1_dataAreRight_2 x0 x1 h = some y := hf
    unfold tX1_dataAreRight_2 at hf
    have K0 := pm_S3.rf h
    obtain ⟨k1, hf⟩ := pm_if hf
    obtain ⟨v2, e3, hf⟩ := pm_bd hf
    obtain ⟨k4, hf⟩ := pm_if hf
    obtain ⟨v5, e6, hf⟩ := pm_bd hf
    obtain ⟨k7, hf⟩ := pm_if hf
    by_cases c8 : (Int32.ofNat (pm_ln h v5)) ≤ x1
    · have hf := pm_it hf c8
      cases hf
      cases hi
      exact K0
    · have hf := pm_ie hf c8
      by_cases c9 : (pm_I h x0 0) = 0
      · have hf := pm_it hf c9
        obtain ⟨v10, e11, hf⟩ := pm_bd hf
        by_cases c12 : v10 = 0
        · have hf := pm_it hf c12
          obtain ⟨v13, e14, hf⟩ := pm_bd hf
          obtain ⟨v15, e16, hf⟩ := pm_bd hf
          by_cases c17 : v15 = 0
          · have hf := pm_it hf c17
            obtain ⟨v18, e19, hf⟩ := pm_bd hf
            have K20 := pm_S3.trans (kpX1_failSection e19) K0
            obtain ⟨k21, hf⟩ := pm_if hf
            obtain ⟨v22, e23, hf⟩ := pm_bd hf
            obtain ⟨v24, e25, hf⟩ := pm_bd hf
            obtain ⟨k26, hf⟩ := pm_if hf
            obtain ⟨v27, e28, hf⟩ := pm_bd hf
            obtain ⟨v29, e30, hf⟩ := pm_bd hf
            obtain ⟨k31, hf⟩ := pm_if hf
            obtain ⟨v32, e33, hf⟩ := pm_bd hf
            have K34 := pm_S3.trans (kpX9_open e33) K20
            obtain ⟨k35, hf⟩ := pm_if hf
            obtain ⟨v36, e37, hf⟩ := pm_bd hf
            have K38 := pm_S3.trans (kpX1_constant e37) K34
            obtain ⟨y39, e40, hf⟩ := pm_lt hf
            cases hf
            exact pm_S3.trans (ih x0 y39 v36 hi) K38
          · have hf := pm_ie hf c17
            obtain ⟨v41, e42, hf⟩ := pm_bd hf
            obtain ⟨v43, e44, hf⟩ := pm_bd hf
            obtain ⟨k45, hf⟩ := pm_if hf
            obtain ⟨v46, e47, hf⟩ := pm_bd hf
            have K48 := pm_S3.trans (kpX9_open e47) K0
            obtain ⟨k49, hf⟩ := pm_if hf
            obtain ⟨v50, e51, hf⟩ := pm_bd hf
            have K52 := pm_S3.trans (kpX1_constant e51) K48
            obtain ⟨y53, e54, hf⟩ := pm_lt hf
            cases hf
            exact pm_S3.trans (ih x0 y53 v50 hi) K52
        · have hf := pm_ie hf c12
          obtain ⟨y55, e56, hf⟩ := pm_lt hf
          cases hf
          exact pm_S3.trans (ih x0 y55 h hi) K0
      · have hf := pm_ie hf c9
        cases hf
        cases hi
        exact K0
set_option maxHeartbeats 4000000 in
set_option maxRecDepth 100000 in
theorem kpX1_dataAreRight {h : pm_H} {a0 : Nat} {r : pm_H} (hf : fX1_dataAreRight h a0 = some r) : pm_S3 r h := by
  unfold fX1_dataAreRight at hf
  have K0 := pm_S3.rf h
  obtain ⟨n, hn⟩ := pm_lim_iter hf
  exact pm_S3.trans ((klX1_dataAreRight n) a0 0 h hn) K0
