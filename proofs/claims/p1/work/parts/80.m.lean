set_option maxHeartbeats 4000000 in
set_option maxRecDepth 100000 in
theorem kpX1_openLabel {h : pm_H} {a0 : Nat} {p1 : Int32} {p2 : Int32} {p3 : Int32} {p4 : Int32} {r : pm_H} (hf : fX1_openLabel h a0 p1 p2 p3 p4 = some r) : pm_S3 r h := by
  unfold fX1_openLabel at hf
  have K0 := pm_S3.rf h
  obtain ⟨k1, hf⟩ := pm_if hf
  obtain ⟨y2, e3, hf⟩ := pm_lt hf
  obtain ⟨y4, e5, hf⟩ := pm_lt hf
  obtain ⟨v6, e7, hf⟩ := pm_bd hf
  have K8 := pm_S3.trans (kpX1_setLabel e7) K0
  obtain ⟨k9, hf⟩ := pm_if hf
  obtain ⟨v10, e11, hf⟩ := pm_bd hf
  have K12 := pm_S3.trans (kpX1_setLabel e11) K8
  obtain ⟨k13, hf⟩ := pm_if hf
  obtain ⟨v14, e15, hf⟩ := pm_bd hf
  have K16 := pm_S3.trans (kpX1_setLabel e15) K12
  obtain ⟨k17, hf⟩ := pm_if hf
  obtain ⟨v18, e19, hf⟩ := pm_bd hf
  have K20 := pm_S3.trans (kpX1_setLabel e19) K16
  by_cases c21 : p3 = 0
  · have hf := pm_it hf c21
    obtain ⟨k22, hf⟩ := pm_if hf
    obtain ⟨v23, e24, hf⟩ := pm_bd hf
    have K25 := pm_S3.trans (kpX1_setLabel e24) K20
    obtain ⟨k26, hf⟩ := pm_if hf
    obtain ⟨v27, e28, hf⟩ := pm_bd hf
    have K29 := pm_S3.trans (kpX1_setLabel e28) K25
    obtain ⟨k30, hf⟩ := pm_if hf
    obtain ⟨v31, e32, hf⟩ := pm_bd hf
    have K33 := pm_S3.trans (kpX1_setLabel e32) K29
    cases hf
    exact K33
  · have hf := pm_ie hf c21
    obtain ⟨k34, hf⟩ := pm_if hf
    obtain ⟨v35, e36, hf⟩ := pm_bd hf
    have K37 := pm_S3.trans (kpX1_setLabel e36) K20
    obtain ⟨k38, hf⟩ := pm_if hf
    obtain ⟨v39, e40, hf⟩ := pm_bd hf
    have K41 := pm_S3.trans (kpX1_setLabel e40) K37
    obtain ⟨k42, hf⟩ := pm_if hf
    obtain ⟨v43, e44, hf⟩ := pm_bd hf
    have K45 := pm_S3.trans (kpX1_setLabel e44) K41
    cases hf
    exact K45
set_option maxHeartbeats 4000000 in
set_option maxRecDepth 100000 in
theorem kpX1_plain_b69 {h : pm_H} {x0 : Nat} {x4 : Int32} {s0 : Int32} {s1 : Int32} {r : pm_H} (hf : fX1_plain_b69 h x0 x4 s0 s1 = some r) : pm_S3 r h := by
  unfold fX1_plain_b69 at hf
  have K0 := pm_S3.rf h
  obtain ⟨y24, e25, hf⟩ := pm_lt hf
  obtain ⟨k26, hf⟩ := pm_if hf
  obtain ⟨v27, e28, hf⟩ := pm_bd hf
  obtain ⟨k29, hf⟩ := pm_if hf
  by_cases c30 : x4 = 0
  · have hf := pm_it hf c30
    obtain ⟨v31, e32, hf⟩ := pm_bd hf
    have K33 := pm_S3.trans (kpX1_emit e32) K0
    cases hf
    exact K33
  · have hf := pm_ie hf c30
    obtain ⟨v34, e35, hf⟩ := pm_bd hf
    have K36 := pm_S3.trans (kpX1_emit e35) K0
    cases hf
    exact K36
set_option maxHeartbeats 4000000 in
set_option maxRecDepth 100000 in
theorem kpX1_plain_b59 {h : pm_H} {x0 : Nat} {x3 : Int32} {x4 : Int32} {s0 : Int32} {s1 : Int32} {r : pm_H} (hf : fX1_plain_b59 h x0 x3 x4 s0 s1 = some r) : pm_S3 r h := by
  unfold fX1_plain_b59 at hf
  have K0 := pm_S3.rf h
  by_cases c23 : x3 = 0
  · have hf := pm_it hf c23
    exact pm_S3.trans (kpX1_plain_b69 hf) K0
  · have hf := pm_ie hf c23
    exact pm_S3.trans (kpX1_plain_b69 hf) K0
set_option maxHeartbeats 4000000 in
set_option maxRecDepth 100000 in
theorem kpX1_plain_b50 {h : pm_H} {x0 : Nat} {x2 : Int32} {x3 : Int32} {x4 : Int32} {s0 : Int32} {r : pm_H} (hf : fX1_plain_b50 h x0 x2 x3 x4 s0 = some r) : pm_S3 r h := by
  unfold fX1_plain_b50 at hf
  have K0 := pm_S3.rf h
  by_cases c22 : x2 = 0
  · have hf := pm_it hf c22
    exact pm_S3.trans (kpX1_plain_b59 hf) K0
  · have hf := pm_ie hf c22
    exact pm_S3.trans (kpX1_plain_b59 hf) K0
set_option maxHeartbeats 4000000 in
set_option maxRecDepth 100000 in
theorem kpX1_plain_b41 {h : pm_H} {x0 : Nat} {x1 : Int32} {x2 : Int32} {x3 : Int32} {x4 : Int32} {r : pm_H} (hf : fX1_plain_b41 h x0 x1 x2 x3 x4 = some r) : pm_S3 r h := by
  unfold fX1_plain_b41 at hf
  have K0 := pm_S3.rf h
  by_cases c21 : x1 = 0
  · have hf := pm_it hf c21
    exact pm_S3.trans (kpX1_plain_b50 hf) K0
  · have hf := pm_ie hf c21
    exact pm_S3.trans (kpX1_plain_b50 hf) K0
set_option maxHeartbeats 4000000 in
set_option maxRecDepth 100000 in
theorem kpX1_plain_b30 {h : pm_H} {x0 : Nat} {x1 : Int32} {x2 : Int32} {x3 : Int32} {x4 : Int32} {r : pm_H} (hf : fX1_plain_b30 h x0 x1 x2 x3 x4 = some r) : pm_S3 r h := by
  unfold fX1_plain_b30 at hf
  have K0 := pm_S3.rf h
  by_cases c16 : x4 = 0
  · have hf := pm_it hf c16
    exact pm_S3.trans (kpX1_plain_b41 hf) K0
  · have hf := pm_ie hf c16
    obtain ⟨k17, hf⟩ := pm_if hf
    obtain ⟨v18, e19, hf⟩ := pm_bd hf
    have K20 := pm_S3.trans (kpX1_put e19) K0
    exact pm_S3.trans (kpX1_plain_b41 hf) K20
set_option maxHeartbeats 4000000 in
set_option maxRecDepth 100000 in
theorem kpX1_plain_b20 {h : pm_H} {x0 : Nat} {x1 : Int32} {x2 : Int32} {x3 : Int32} {x4 : Int32} {r : pm_H} (hf : fX1_plain_b20 h x0 x1 x2 x3 x4 = some r) : pm_S3 r h := by
  unfold fX1_plain_b20 at hf
  have K0 := pm_S3.rf h
  by_cases c11 : x3 = 0
  · have hf := pm_it hf c11
    exact pm_S3.trans (kpX1_plain_b30 hf) K0
  · have hf := pm_ie hf c11
    obtain ⟨k12, hf⟩ := pm_if hf
    obtain ⟨v13, e14, hf⟩ := pm_bd hf
    have K15 := pm_S3.trans (kpX1_take e14) K0
    exact pm_S3.trans (kpX1_plain_b30 hf) K15
set_option maxHeartbeats 4000000 in
set_option maxRecDepth 100000 in
theorem kpX1_plain_b10 {h : pm_H} {x0 : Nat} {x1 : Int32} {x2 : Int32} {x3 : Int32} {x4 : Int32} {r : pm_H} (hf : fX1_plain_b10 h x0 x1 x2 x3 x4 = some r) : pm_S3 r h := by
  unfold fX1_plain_b10 at hf
  have K0 := pm_S3.rf h
  by_cases c6 : x2 = 0
  · have hf := pm_it hf c6
    exact pm_S3.trans (kpX1_plain_b20 hf) K0
  · have hf := pm_ie hf c6
    obtain ⟨k7, hf⟩ := pm_if hf
    obtain ⟨v8, e9, hf⟩ := pm_bd hf
    have K10 := pm_S3.trans (kpX1_take e9) K0
    exact pm_S3.trans (kpX1_plain_b20 hf) K10
set_option maxHeartbeats 4000000 in
set_option maxRecDepth 100000 in
theorem kpX1_plain {h : pm_H} {a0 : Nat} {p1 : Int32} {p2 : Int32} {p3 : Int32} {p4 : Int32} {r : pm_H} (hf : fX1_plain h a0 p1 p2 p3 p4 = some r) : pm_S3 r h := by
  unfold fX1_plain at hf
  have K0 := pm_S3.rf h
  by_cases c1 : p1 = 0
  · have hf := pm_it hf c1
    exact pm_S3.trans (kpX1_plain_b10 hf) K0
  · have hf := pm_ie hf c1
    obtain ⟨k2, hf⟩ := pm_if hf
    obtain ⟨v3, e4, hf⟩ := pm_bd hf
    have K5 := pm_S3.trans (kpX1_take e4) K0
    exact pm_S3.trans (kpX1_plain_b10 hf) K5
set_option maxHeartbeats 4000000 in
set_option maxRecDepth 100000 in
theorem kpX1_putParameters {h : pm_H} {a0 : Nat} {p1 : Nat} {r : pm_H} (hf : fX1_putParameters h a0 p1 = some r) : pm_S3 r h := by
  unfold fX1_putParameters at hf
  have K0 := pm_S3.rf h
  obtain ⟨v1, e2, hf⟩ := pm_bd hf
  obtain ⟨k3, hf⟩ := pm_if hf
  obtain ⟨v4, e5, hf⟩ := pm_bd hf
  have K6 := pm_S3.trans (kpX1_putTypes e5) K0
  cases hf
  exact K6
set_option maxHeartbeats 4000000 in
set_option maxRecDepth 100000 in
theorem kpX1_putResults {h : pm_H} {a0 : Nat} {p1 : Nat} {r : pm_H} (hf : fX1_putResults h a0 p1 = some r) : pm_S3 r h := by
  unfold fX1_putResults at hf
  have K0 := pm_S3.rf h
  obtain ⟨v1, e2, hf⟩ := pm_bd hf
  obtain ⟨v3, e4, hf⟩ := pm_bd hf
  obtain ⟨k5, hf⟩ := pm_if hf
  obtain ⟨v6, e7, hf⟩ := pm_bd hf
  have K8 := pm_S3.trans (kpX1_putTypes e7) K0
  cases hf
  exact K8
set_option maxHeartbeats 4000000 in
set_option maxRecDepth 100000 in
theorem kpX1_stretch_b64 {h : pm_H} {x0 : Nat} {x1 : Int32} {x2 : Int32} {r : pm_H} (hf : fX1_stretch_b64 h x0 x1 x2 = some r) : pm_S3 r h := by
  unfold fX1_stretch_b64 at hf
  have K0 := pm_S3.rf h
  by_cases c22 : x2 = 0
  · have hf := pm_it hf c22
    obtain ⟨k23, hf⟩ := pm_if hf
    obtain ⟨v24, e25, hf⟩ := pm_bd hf
    have K26 := pm_S3.trans (kpX1_fail e25) K0
    cases hf
    exact K26
  · have hf := pm_ie hf c22
    by_cases c27 : x1 = 309
    · have hf := pm_it hf c27
      obtain ⟨k28, hf⟩ := pm_if hf
      obtain ⟨v29, e30, hf⟩ := pm_bd hf
      have K31 := pm_S3.trans (kpX1_plain e30) K0
      cases hf
      exact K31
    · have hf := pm_ie hf c27
      obtain ⟨k32, hf⟩ := pm_if hf
      obtain ⟨v33, e34, hf⟩ := pm_bd hf
      have K35 := pm_S3.trans (kpX1_plain e34) K0
      cases hf
      exact K35
set_option maxHeartbeats 4000000 in
set_option maxRecDepth 100000 in
theorem kpX1_stretch_b63 {h : pm_H} {x0 : Nat} {x1 : Int32} {s0 : Int32} {r : pm_H} (hf : fX1_stretch_b63 h x0 x1 s0 = some r) : pm_S3 r h := by
  unfold fX1_stretch_b63 at hf
  have K0 := pm_S3.rf h
  exact pm_S3.trans (kpX1_stretch_b64 hf) K0
set_option maxHeartbeats 4000000 in
set_option maxRecDepth 100000 in
theorem kpX1_stretch_b62 {h : pm_H} {x0 : Nat} {x1 : Int32} {r : pm_H} (hf : fX1_stretch_b62 h x0 x1 = some r) : pm_S3 r h := by
  unfold fX1_stretch_b62 at hf
  have K0 := pm_S3.rf h
  exact pm_S3.trans (kpX1_stretch_b63 hf) K0
set_option maxHeartbeats 4000000 in
set_option maxRecDepth 100000 in
theorem kpX1_stretch_b23 {h : pm_H} {x0 : Nat} {x1 : Int32} {s0 : Int32} {r : pm_H} (hf : fX1_stretch_b23 h x0 x1 s0 = some r) : pm_S3 r h := by
  unfold fX1_stretch_b23 at hf
  have K0 := pm_S3.rf h
  by_cases c9 : 309 < x1
  · have hf := pm_it hf c9
    exact pm_S3.trans (kpX1_stretch_b64 hf) K0
  · have hf := pm_ie hf c9
    by_cases c10 : s0 = 0
    · have hf := pm_it hf c10
      exact pm_S3.trans (kpX1_stretch_b62 hf) K0
    · have hf := pm_ie hf c10
      obtain ⟨k11, hf⟩ := pm_if hf
      obtain ⟨v12, e13, hf⟩ := pm_bd hf
      obtain ⟨k14, hf⟩ := pm_if hf
      obtain ⟨v15, e16, hf⟩ := pm_bd hf
      obtain ⟨k17, hf⟩ := pm_if hf
      obtain ⟨v18, e19, hf⟩ := pm_bd hf
      obtain ⟨k20, hf⟩ := pm_if hf
      by_cases c21 : (((Int32.ofNat (pm_ln h v18)) / 7).toInt64) ≤ (pm_L h v12 8)
      · have hf := pm_it hf c21
        exact pm_S3.trans (kpX1_stretch_b62 hf) K0
      · have hf := pm_ie hf c21
        exact pm_S3.trans (kpX1_stretch_b63 hf) K0
set_option maxHeartbeats 4000000 in
set_option maxRecDepth 100000 in
theorem kpX1_stretch_b18 {h : pm_H} {x0 : Nat} {x1 : Int32} {r : pm_H} (hf : fX1_stretch_b18 h x0 x1 = some r) : pm_S3 r h := by
  unfold fX1_stretch_b18 at hf
  have K0 := pm_S3.rf h
  exact pm_S3.trans (kpX1_stretch_b23 hf) K0
set_option maxHeartbeats 4000000 in
set_option maxRecDepth 100000 in
theorem kpX1_stretch {h : pm_H} {a0 : Nat} {p1 : Int32} {r : pm_H} (hf : fX1_stretch h a0 p1 = some r) : pm_S3 r h := by
  unfold fX1_stretch at hf
  have K0 := pm_S3.rf h
  by_cases c1 : p1 = 309
  · have hf := pm_it hf c1
    exact pm_S3.trans (kpX1_stretch_b18 hf) K0
  · have hf := pm_ie hf c1
    obtain ⟨k2, hf⟩ := pm_if hf
    obtain ⟨v3, e4, hf⟩ := pm_bd hf
    obtain ⟨k5, hf⟩ := pm_if hf
    obtain ⟨v6, e7, hf⟩ := pm_bd hf
    by_cases c8 : v6 ≤ 0
    · have hf := pm_it hf c8
      exact pm_S3.trans (kpX1_stretch_b23 hf) K0
    · have hf := pm_ie hf c8
      exact pm_S3.trans (kpX1_stretch_b18 hf) K0
set_option maxHeartbeats 4000000 in
set_option maxRecDepth 100000 in
theorem kpX1_tableAccess_b195 {h : pm_H} {x0 : Nat} {x1 : Int32} {x5 : Int32} {x6 : Int32} {s0 : Int32} {r : pm_H} (hf : fX1_tableAccess_b195 h x0 x1 x5 x6 s0 = some r) : pm_S3 r h := by
  unfold fX1_tableAccess_b195 at hf
  have K0 := pm_S3.rf h
  by_cases c60 : x5 = 0
  · have hf := pm_it hf c60
    obtain ⟨k61, hf⟩ := pm_if hf
    obtain ⟨v62, e63, hf⟩ := pm_bd hf
    have K64 := pm_S3.trans (kpX1_fail e63) K0
    cases hf
    exact K64
  · have hf := pm_ie hf c60
    by_cases c65 : s0 = 0
    · have hf := pm_it hf c65
      obtain ⟨k66, hf⟩ := pm_if hf
      obtain ⟨v67, e68, hf⟩ := pm_bd hf
      have K69 := pm_S3.trans (kpX1_fail e68) K0
      cases hf
      exact K69
    · have hf := pm_ie hf c65
      by_cases c70 : x1 = 37
      · have hf := pm_it hf c70
        obtain ⟨k71, hf⟩ := pm_if hf
        obtain ⟨v72, e73, hf⟩ := pm_bd hf
        have K74 := pm_S3.trans (kpX1_plain e73) K0
        cases hf
        exact K74
      have hf := pm_ie hf c70
      by_cases c75 : x1 = 38
      · have hf := pm_it hf c75
        obtain ⟨k76, hf⟩ := pm_if hf
        obtain ⟨v77, e78, hf⟩ := pm_bd hf
        have K79 := pm_S3.trans (kpX1_plain e78) K0
        cases hf
        exact K79
      have hf := pm_ie hf c75
      by_cases c80 : x1 = 313
      · have hf := pm_it hf c80
        obtain ⟨k81, hf⟩ := pm_if hf
        obtain ⟨v82, e83, hf⟩ := pm_bd hf
        have K84 := pm_S3.trans (kpX1_plain e83) K0
        cases hf
        exact K84
      have hf := pm_ie hf c80
      by_cases c85 : x1 = 315
      · have hf := pm_it hf c85
        obtain ⟨k86, hf⟩ := pm_if hf
        obtain ⟨v87, e88, hf⟩ := pm_bd hf
        have K89 := pm_S3.trans (kpX1_plain e88) K0
        cases hf
        exact K89
      have hf := pm_ie hf c85
      by_cases c90 : x1 = 316
      · have hf := pm_it hf c90
        obtain ⟨k91, hf⟩ := pm_if hf
        obtain ⟨v92, e93, hf⟩ := pm_bd hf
        have K94 := pm_S3.trans (kpX1_plain e93) K0
        cases hf
        exact K94
      have hf := pm_ie hf c90
      by_cases c95 : x1 = 317
      · have hf := pm_it hf c95
        obtain ⟨k96, hf⟩ := pm_if hf
        obtain ⟨v97, e98, hf⟩ := pm_bd hf
        have K99 := pm_S3.trans (kpX1_plain e98) K0
        cases hf
        exact K99
      have hf := pm_ie hf c95
      obtain ⟨k100, hf⟩ := pm_if hf
      obtain ⟨v101, e102, hf⟩ := pm_bd hf
      have K103 := pm_S3.trans (kpX1_plain e102) K0
      cases hf
      exact K103
set_option maxHeartbeats 4000000 in
set_option maxRecDepth 100000 in
theorem kpX1_tableAccess_b190 {h : pm_H} {x0 : Nat} {x1 : Int32} {x5 : Int32} {x6 : Int32} {r : pm_H} (hf : fX1_tableAccess_b190 h x0 x1 x5 x6 = some r) : pm_S3 r h := by
  unfold fX1_tableAccess_b190 at hf
  have K0 := pm_S3.rf h
  exact pm_S3.trans (kpX1_tableAccess_b195 hf) K0
set_option maxHeartbeats 4000000 in
set_option maxRecDepth 100000 in
theorem kpX1_tableAccess_b173 {h : pm_H} {x0 : Nat} {x1 : Int32} {x3 : Int32} {x5 : Int32} {x6 : Int32} {r : pm_H} (hf : fX1_tableAccess_b173 h x0 x1 x3 x5 x6 = some r) : pm_S3 r h := by
  unfold fX1_tableAccess_b173 at hf
  have K0 := pm_S3.rf h
  obtain ⟨k53, hf⟩ := pm_if hf
  obtain ⟨v54, e55, hf⟩ := pm_bd hf
  obtain ⟨k56, hf⟩ := pm_if hf
  obtain ⟨v57, e58, hf⟩ := pm_bd hf
  by_cases c59 : v57 = x6.toInt64
  · have hf := pm_it hf c59
    exact pm_S3.trans (kpX1_tableAccess_b190 hf) K0
  · have hf := pm_ie hf c59
    exact pm_S3.trans (kpX1_tableAccess_b195 hf) K0
set_option maxHeartbeats 4000000 in
set_option maxRecDepth 100000 in
theorem kpX1_tableAccess_b157 {h : pm_H} {x0 : Nat} {x1 : Int32} {x3 : Int32} {x5 : Int32} {s0 : Int32} {r : pm_H} (hf : fX1_tableAccess_b157 h x0 x1 x3 x5 s0 = some r) : pm_S3 r h := by
  unfold fX1_tableAccess_b157 at hf
  have K0 := pm_S3.rf h
  by_cases c51 : x1 = 312
  · have hf := pm_it hf c51
    exact pm_S3.trans (kpX1_tableAccess_b173 hf) K0
  · have hf := pm_ie hf c51
    by_cases c52 : x1 = 314
    · have hf := pm_it hf c52
      exact pm_S3.trans (kpX1_tableAccess_b173 hf) K0
    · have hf := pm_ie hf c52
      exact pm_S3.trans (kpX1_tableAccess_b190 hf) K0
set_option maxHeartbeats 4000000 in
set_option maxRecDepth 100000 in
theorem kpX1_tableAccess_b122 {h : pm_H} {x0 : Nat} {x1 : Int32} {x2 : Int32} {x3 : Int32} {x4 : Int32} {x5 : Int32} {r : pm_H} (hf : fX1_tableAccess_b122 h x0 x1 x2 x3 x4 x5 = some r) : pm_S3 r h := by
  unfold fX1_tableAccess_b122 at hf
  have K0 := pm_S3.rf h
  by_cases c36 : x4 = 0
  · have hf := pm_it hf c36
    obtain ⟨k37, hf⟩ := pm_if hf
    obtain ⟨v38, e39, hf⟩ := pm_bd hf
    obtain ⟨k40, hf⟩ := pm_if hf
    obtain ⟨v41, e42, hf⟩ := pm_bd hf
    exact pm_S3.trans (kpX1_tableAccess_b157 hf) K0
  · have hf := pm_ie hf c36
    obtain ⟨k43, hf⟩ := pm_if hf
    obtain ⟨v44, e45, hf⟩ := pm_bd hf
    obtain ⟨k46, hf⟩ := pm_if hf
    obtain ⟨v47, e48, hf⟩ := pm_bd hf
    obtain ⟨v49, e50, hf⟩ := pm_bd hf
    exact pm_S3.trans (kpX1_tableAccess_b157 hf) K0
set_option maxHeartbeats 4000000 in
set_option maxRecDepth 100000 in
theorem kpX1_tableAccess_b120 {h : pm_H} {x0 : Nat} {x1 : Int32} {x2 : Int32} {x3 : Int32} {x4 : Int32} {s0 : Int32} {r : pm_H} (hf : fX1_tableAccess_b120 h x0 x1 x2 x3 x4 s0 = some r) : pm_S3 r h := by
  unfold fX1_tableAccess_b120 at hf
  have K0 := pm_S3.rf h
  exact pm_S3.trans (kpX1_tableAccess_b122 hf) K0
set_option maxHeartbeats 4000000 in
set_option maxRecDepth 100000 in
theorem kpX1_tableAccess_b119 {h : pm_H} {x0 : Nat} {x1 : Int32} {x2 : Int32} {x3 : Int32} {x4 : Int32} {r : pm_H} (hf : fX1_tableAccess_b119 h x0 x1 x2 x3 x4 = some r) : pm_S3 r h := by
  unfold fX1_tableAccess_b119 at hf
  have K0 := pm_S3.rf h
  exact pm_S3.trans (kpX1_tableAccess_b120 hf) K0
set_option maxHeartbeats 4000000 in
set_option maxRecDepth 100000 in
theorem kpX1_tableAccess_b97 {h : pm_H} {x0 : Nat} {x1 : Int32} {x2 : Int32} {x3 : Int32} {x4 : Int32} {x5 : Int32} {r : pm_H} (hf : fX1_tableAccess_b97 h x0 x1 x2 x3 x4 x5 = some r) : pm_S3 r h := by
  unfold fX1_tableAccess_b97 at hf
  have K0 := pm_S3.rf h
  by_cases c28 : x5 = 0
  · have hf := pm_it hf c28
    exact pm_S3.trans (kpX1_tableAccess_b119 hf) K0
  · have hf := pm_ie hf c28
    obtain ⟨k29, hf⟩ := pm_if hf
    obtain ⟨v30, e31, hf⟩ := pm_bd hf
    obtain ⟨k32, hf⟩ := pm_if hf
    obtain ⟨v33, e34, hf⟩ := pm_bd hf
    by_cases c35 : v33 = 0
    · have hf := pm_it hf c35
      exact pm_S3.trans (kpX1_tableAccess_b119 hf) K0
    · have hf := pm_ie hf c35
      exact pm_S3.trans (kpX1_tableAccess_b120 hf) K0
set_option maxHeartbeats 4000000 in
set_option maxRecDepth 100000 in
theorem kpX1_tableAccess_b81 {h : pm_H} {x0 : Nat} {x1 : Int32} {x2 : Int32} {x3 : Int32} {x4 : Int32} {s0 : Int32} {r : pm_H} (hf : fX1_tableAccess_b81 h x0 x1 x2 x3 x4 s0 = some r) : pm_S3 r h := by
  unfold fX1_tableAccess_b81 at hf
  have K0 := pm_S3.rf h
  by_cases c26 : x1 = 312
  · have hf := pm_it hf c26
    exact pm_S3.trans (kpX1_tableAccess_b97 hf) K0
  · have hf := pm_ie hf c26
    by_cases c27 : x1 = 314
    · have hf := pm_it hf c27
      exact pm_S3.trans (kpX1_tableAccess_b97 hf) K0
    · have hf := pm_ie hf c27
      exact pm_S3.trans (kpX1_tableAccess_b122 hf) K0
set_option maxHeartbeats 4000000 in
set_option maxRecDepth 100000 in
theorem kpX1_tableAccess_b41 {h : pm_H} {x0 : Nat} {x1 : Int32} {x2 : Int32} {x3 : Int32} {s0 : Int32} {r : pm_H} (hf : fX1_tableAccess_b41 h x0 x1 x2 x3 s0 = some r) : pm_S3 r h := by
  unfold fX1_tableAccess_b41 at hf
  have K0 := pm_S3.rf h
  by_cases c11 : s0 = 0
  · have hf := pm_it hf c11
    obtain ⟨k12, hf⟩ := pm_if hf
    obtain ⟨v13, e14, hf⟩ := pm_bd hf
    obtain ⟨k15, hf⟩ := pm_if hf
    obtain ⟨v16, e17, hf⟩ := pm_bd hf
    exact pm_S3.trans (kpX1_tableAccess_b81 hf) K0
  · have hf := pm_ie hf c11
    obtain ⟨k18, hf⟩ := pm_if hf
    obtain ⟨v19, e20, hf⟩ := pm_bd hf
    obtain ⟨k21, hf⟩ := pm_if hf
    obtain ⟨v22, e23, hf⟩ := pm_bd hf
    obtain ⟨k24, hf⟩ := pm_if hf
    by_cases c25 : ((Int32.ofNat (pm_ln h v22)) / 7) ≤ x2
    · have hf := pm_it hf c25
      exact pm_S3.trans (kpX1_tableAccess_b81 hf) K0
    · have hf := pm_ie hf c25
      exact pm_S3.trans (kpX1_tableAccess_b81 hf) K0
set_option maxHeartbeats 4000000 in
set_option maxRecDepth 100000 in
theorem kpX1_tableAccess_b36 {h : pm_H} {x0 : Nat} {x1 : Int32} {x2 : Int32} {x3 : Int32} {r : pm_H} (hf : fX1_tableAccess_b36 h x0 x1 x2 x3 = some r) : pm_S3 r h := by
  unfold fX1_tableAccess_b36 at hf
  have K0 := pm_S3.rf h
  exact pm_S3.trans (kpX1_tableAccess_b41 hf) K0
set_option maxHeartbeats 4000000 in
set_option maxRecDepth 100000 in
theorem kpX1_tableAccess {h : pm_H} {a0 : Nat} {p1 : Int32} {r : pm_H} (hf : fX1_tableAccess h a0 p1 = some r) : pm_S3 r h := by
  unfold fX1_tableAccess at hf
  have K0 := pm_S3.rf h
  obtain ⟨k1, hf⟩ := pm_if hf
  obtain ⟨v2, e3, hf⟩ := pm_bd hf
  obtain ⟨k4, hf⟩ := pm_if hf
  obtain ⟨v5, e6, hf⟩ := pm_lt hf
  obtain ⟨v7, e8, hf⟩ := pm_lt hf
  by_cases c9 : p1 = 312
  · have hf := pm_it hf c9
    exact pm_S3.trans (kpX1_tableAccess_b36 hf) K0
  · have hf := pm_ie hf c9
    by_cases c10 : p1 = 313
    · have hf := pm_it hf c10
      exact pm_S3.trans (kpX1_tableAccess_b36 hf) K0
    · have hf := pm_ie hf c10
      exact pm_S3.trans (kpX1_tableAccess_b41 hf) K0
set_option maxHeartbeats 4000000 in
set_option maxRecDepth 100000 in
theorem kpX1_takeParameters {h : pm_H} {a0 : Nat} {p1 : Nat} {r : pm_H} (hf : fX1_takeParameters h a0 p1 = some r) : pm_S3 r h := by
  unfold fX1_takeParameters at hf
  have K0 := pm_S3.rf h
  obtain ⟨v1, e2, hf⟩ := pm_bd hf
  obtain ⟨k3, hf⟩ := pm_if hf
  obtain ⟨v4, e5, hf⟩ := pm_bd hf
  have K6 := pm_S3.trans (kpX1_takeTypes e5) K0
  cases hf
  exact K6
set_option maxHeartbeats 4000000 in
set_option maxRecDepth 100000 in
theorem klX1_typesAreThere {r : pm_H} : ∀ n : Nat, (∀ (x0 : Nat) (x1 : Int32) (x2 : Int32) (h : pm_H), pm_iter sX1_typesAreThere n (.inl (x0, x1, x2, h)) = some r → pm_S3 r h) ∧ (∀ (x0 : Nat) (x2 : Int32) (h : pm_H), pm_iter sX1_typesAreThere n (.inr (x0, x2, h)) = some r → pm_S3 r h) := by
  intro n
  induction n with
  | zero => exact ⟨fun _ _ _ _ hf => (by cases hf), fun _ _ _ hf => (by cases hf)⟩
  | succ n ih =>
    refine ⟨fun x0 x1 x2 h hf => ?_, ?_⟩
    · obtain ⟨y, hf, hi⟩ := pm_iter_s hf
      have hf : tX1_typesAreThere_4 x0 x1 x2 h = some y := hf
      unfold tX1_typesAreThere_4 at hf
      have K0 := pm_S3.rf h
      obtain ⟨k1, hf⟩ := pm_if hf
      obtain ⟨v2, e3, hf⟩ := pm_bd hf
      obtain ⟨k4, hf⟩ := pm_if hf
      obtain ⟨v5, e6, hf⟩ := pm_bd hf
      obtain ⟨k7, hf⟩ := pm_if hf
      by_cases c8 : (Int32.ofNat (pm_ln h v5)) ≤ x2
      · have hf := pm_it hf c8
        cases hf
        exact pm_S3.trans (ih.2 x0 x1 h hi) K0
      · have hf := pm_ie hf c8
        obtain ⟨v9, e10, hf⟩ := pm_bd hf
        by_cases c11 : v9 = 0
        · have hf := pm_it hf c11
          obtain ⟨y12, e13, hf⟩ := pm_lt hf
          obtain ⟨v14, e15, hf⟩ := pm_bd hf
          obtain ⟨v16, e17, hf⟩ := pm_bd hf
          obtain ⟨k18, hf⟩ := pm_if hf
          by_cases c19 : v14 < ((Int32.ofNat (pm_ln h v16)).toInt64)
          · have hf := pm_it hf c19
            obtain ⟨y20, e21, hf⟩ := pm_lt hf
            cases hf
            exact pm_S3.trans (ih.1 x0 y12 y20 h hi) K0
          · have hf := pm_ie hf c19
            obtain ⟨v22, e23, hf⟩ := pm_bd hf
            have K24 := pm_S3.trans (kpX1_failSection e23) K0
            obtain ⟨y25, e26, hf⟩ := pm_lt hf
            cases hf
            exact pm_S3.trans (ih.1 x0 y12 y25 v22 hi) K24
        · have hf := pm_ie hf c11
          obtain ⟨y27, e28, hf⟩ := pm_lt hf
          cases hf
          exact pm_S3.trans (ih.1 x0 x1 y27 h hi) K0
    refine fun x0 x2 h hf => ?_
    obtain ⟨y, hf, hi⟩ := pm_iter_s hf
    have hf : tX1_typesAreThere_81 x0 x2 h = some y := hf
    unfold tX1_typesAreThere_81 at hf
    have K0 := pm_S3.rf h
    obtain ⟨k29, hf⟩ := pm_if hf
    obtain ⟨v30, e31, hf⟩ := pm_bd hf
    obtain ⟨k32, hf⟩ := pm_if hf
    obtain ⟨v33, e34, hf⟩ := pm_bd hf
    by_cases c35 : v33 ≤ x2
    · have hf := pm_it hf c35
      cases hf
      cases hi
      exact K0
    · have hf := pm_ie hf c35
      obtain ⟨v36, e37, hf⟩ := pm_bd hf
      obtain ⟨v38, e39, hf⟩ := pm_bd hf
      obtain ⟨k40, hf⟩ := pm_if hf
      by_cases c41 : v36 < ((Int32.ofNat (pm_ln h v38)).toInt64)
      · have hf := pm_it hf c41
        obtain ⟨y42, e43, hf⟩ := pm_lt hf
        cases hf
        exact pm_S3.trans (ih.2 x0 y42 h hi) K0
      · have hf := pm_ie hf c41
        obtain ⟨v44, e45, hf⟩ := pm_bd hf
        have K46 := pm_S3.trans (kpX1_failSection e45) K0
        obtain ⟨y47, e48, hf⟩ := pm_lt hf
        cases hf
        exact pm_S3.trans (ih.2 x0 y47 v44 hi) K46
set_option maxHeartbeats 4000000 in
set_option maxRecDepth 100000 in
theorem kpX1_typesAreThere {h : pm_H} {a0 : Nat} {r : pm_H} (hf : fX1_typesAreThere h a0 = some r) : pm_S3 r h := by
  unfold fX1_typesAreThere at hf
  have K0 := pm_S3.rf h
  obtain ⟨n, hn⟩ := pm_lim_iter hf
  exact pm_S3.trans ((klX1_typesAreThere n).1 a0 0 0 h hn) K0
set_option maxHeartbeats 4000000 in
set_option maxRecDepth 100000 in
theorem kpX1_variable_b189 {h : pm_H} {x0 : Nat} {x1 : Int32} {r : pm_H} (hf : fX1_variable_b189 h x0 x1 = some r) : pm_S3 r h := by
  unfold fX1_variable_b189 at hf
  have K0 := pm_S3.rf h
  by_cases c81 : x1 = 32
  · have hf := pm_it hf c81
    obtain ⟨k82, hf⟩ := pm_if hf
    obtain ⟨v83, e84, hf⟩ := pm_bd hf
    have K85 := pm_S3.trans (kpX1_emitPlain e84) K0
    cases hf
    exact K85
  · have hf := pm_ie hf c81
    by_cases c86 : x1 = 34
    · have hf := pm_it hf c86
      obtain ⟨k87, hf⟩ := pm_if hf
      obtain ⟨v88, e89, hf⟩ := pm_bd hf
      have K90 := pm_S3.trans (kpX1_emitPlain e89) K0
      cases hf
      exact K90
    · have hf := pm_ie hf c86
      by_cases c91 : x1 = 35
      · have hf := pm_it hf c91
        obtain ⟨k92, hf⟩ := pm_if hf
        obtain ⟨v93, e94, hf⟩ := pm_bd hf
        have K95 := pm_S3.trans (kpX1_emitPlain e94) K0
        cases hf
        exact K95
      · have hf := pm_ie hf c91
        obtain ⟨k96, hf⟩ := pm_if hf
        obtain ⟨v97, e98, hf⟩ := pm_bd hf
        have K99 := pm_S3.trans (kpX1_emitPlain e98) K0
        cases hf
        exact K99
set_option maxHeartbeats 4000000 in
set_option maxRecDepth 100000 in
theorem kpX1_variable_b171 {h : pm_H} {x0 : Nat} {x1 : Int32} {r : pm_H} (hf : fX1_variable_b171 h x0 x1 = some r) : pm_S3 r h := by
  unfold fX1_variable_b171 at hf
  have K0 := pm_S3.rf h
  by_cases c59 : x1 = 33
  · have hf := pm_it hf c59
    exact pm_S3.trans (kpX1_variable_b189 hf) K0
  · have hf := pm_ie hf c59
    by_cases c60 : x1 = 34
    · have hf := pm_it hf c60
      exact pm_S3.trans (kpX1_variable_b189 hf) K0
    · have hf := pm_ie hf c60
      by_cases c61 : x1 = 36
      · have hf := pm_it hf c61
        exact pm_S3.trans (kpX1_variable_b189 hf) K0
      · have hf := pm_ie hf c61
        by_cases c62 : x1 = 32
        · have hf := pm_it hf c62
          obtain ⟨k63, hf⟩ := pm_if hf
          obtain ⟨v64, e65, hf⟩ := pm_bd hf
          have K66 := pm_S3.trans (kpX1_emitPlain e65) K0
          cases hf
          exact K66
        · have hf := pm_ie hf c62
          by_cases c67 : x1 = 34
          · have hf := pm_it hf c67
            obtain ⟨k68, hf⟩ := pm_if hf
            obtain ⟨v69, e70, hf⟩ := pm_bd hf
            have K71 := pm_S3.trans (kpX1_emitPlain e70) K0
            cases hf
            exact K71
          · have hf := pm_ie hf c67
            by_cases c72 : x1 = 35
            · have hf := pm_it hf c72
              obtain ⟨k73, hf⟩ := pm_if hf
              obtain ⟨v74, e75, hf⟩ := pm_bd hf
              have K76 := pm_S3.trans (kpX1_emitPlain e75) K0
              cases hf
              exact K76
            · have hf := pm_ie hf c72
              obtain ⟨k77, hf⟩ := pm_if hf
              obtain ⟨v78, e79, hf⟩ := pm_bd hf
              have K80 := pm_S3.trans (kpX1_emitPlain e79) K0
              cases hf
              exact K80
set_option maxHeartbeats 4000000 in
set_option maxRecDepth 100000 in
theorem kpX1_variable_b165 {h : pm_H} {x0 : Nat} {x1 : Int32} {x5 : Int32} {r : pm_H} (hf : fX1_variable_b165 h x0 x1 x5 = some r) : pm_S3 r h := by
  unfold fX1_variable_b165 at hf
  have K0 := pm_S3.rf h
  obtain ⟨k55, hf⟩ := pm_if hf
  obtain ⟨v56, e57, hf⟩ := pm_bd hf
  have K58 := pm_S3.trans (kpX1_put e57) K0
  exact pm_S3.trans (kpX1_variable_b171 hf) K58
set_option maxHeartbeats 4000000 in
set_option maxRecDepth 100000 in
theorem kpX1_variable_b147 {h : pm_H} {x0 : Nat} {x1 : Int32} {x5 : Int32} {r : pm_H} (hf : fX1_variable_b147 h x0 x1 x5 = some r) : pm_S3 r h := by
  unfold fX1_variable_b147 at hf
  have K0 := pm_S3.rf h
  by_cases c52 : x1 = 32
  · have hf := pm_it hf c52
    exact pm_S3.trans (kpX1_variable_b165 hf) K0
  · have hf := pm_ie hf c52
    by_cases c53 : x1 = 34
    · have hf := pm_it hf c53
      exact pm_S3.trans (kpX1_variable_b165 hf) K0
    · have hf := pm_ie hf c53
      by_cases c54 : x1 = 35
      · have hf := pm_it hf c54
        exact pm_S3.trans (kpX1_variable_b165 hf) K0
      · have hf := pm_ie hf c54
        exact pm_S3.trans (kpX1_variable_b171 hf) K0
set_option maxHeartbeats 4000000 in
set_option maxRecDepth 100000 in
theorem kpX1_variable_b140 {h : pm_H} {x0 : Nat} {x1 : Int32} {x5 : Int32} {r : pm_H} (hf : fX1_variable_b140 h x0 x1 x5 = some r) : pm_S3 r h := by
  unfold fX1_variable_b140 at hf
  have K0 := pm_S3.rf h
  obtain ⟨k48, hf⟩ := pm_if hf
  obtain ⟨v49, e50, hf⟩ := pm_bd hf
  have K51 := pm_S3.trans (kpX1_take e50) K0
  exact pm_S3.trans (kpX1_variable_b147 hf) K51
set_option maxHeartbeats 4000000 in
set_option maxRecDepth 100000 in
theorem kpX1_variable_b120 {h : pm_H} {x0 : Nat} {x1 : Int32} {s0 : Int32} {r : pm_H} (hf : fX1_variable_b120 h x0 x1 s0 = some r) : pm_S3 r h := by
  unfold fX1_variable_b120 at hf
  have K0 := pm_S3.rf h
  by_cases c45 : x1 = 33
  · have hf := pm_it hf c45
    exact pm_S3.trans (kpX1_variable_b140 hf) K0
  · have hf := pm_ie hf c45
    by_cases c46 : x1 = 34
    · have hf := pm_it hf c46
      exact pm_S3.trans (kpX1_variable_b140 hf) K0
    · have hf := pm_ie hf c46
      by_cases c47 : x1 = 36
      · have hf := pm_it hf c47
        exact pm_S3.trans (kpX1_variable_b140 hf) K0
      · have hf := pm_ie hf c47
        exact pm_S3.trans (kpX1_variable_b147 hf) K0
set_option maxHeartbeats 4000000 in
set_option maxRecDepth 100000 in
theorem kpX1_variable_b74 {h : pm_H} {x0 : Nat} {x1 : Int32} {x2 : Int32} {x3 : Int32} {s0 : Int32} {r : pm_H} (hf : fX1_variable_b74 h x0 x1 x2 x3 s0 = some r) : pm_S3 r h := by
  unfold fX1_variable_b74 at hf
  have K0 := pm_S3.rf h
  by_cases c23 : x3 = 0
  · have hf := pm_it hf c23
    obtain ⟨k24, hf⟩ := pm_if hf
    obtain ⟨v25, e26, hf⟩ := pm_bd hf
    have K27 := pm_S3.trans (kpX1_fail e26) K0
    cases hf
    exact K27
  · have hf := pm_ie hf c23
    by_cases c28 : s0 = 0
    · have hf := pm_it hf c28
      by_cases c29 : 34 < x1
      · have hf := pm_it hf c29
        obtain ⟨k30, hf⟩ := pm_if hf
        obtain ⟨v31, e32, hf⟩ := pm_bd hf
        obtain ⟨k33, hf⟩ := pm_if hf
        obtain ⟨v34, e35, hf⟩ := pm_bd hf
        exact pm_S3.trans (kpX1_variable_b120 hf) K0
      · have hf := pm_ie hf c29
        obtain ⟨k36, hf⟩ := pm_if hf
        obtain ⟨v37, e38, hf⟩ := pm_bd hf
        obtain ⟨v39, e40, hf⟩ := pm_bd hf
        exact pm_S3.trans (kpX1_variable_b120 hf) K0
    · have hf := pm_ie hf c28
      obtain ⟨k41, hf⟩ := pm_if hf
      obtain ⟨v42, e43, hf⟩ := pm_bd hf
      have K44 := pm_S3.trans (kpX1_fail e43) K0
      cases hf
      exact K44
set_option maxHeartbeats 4000000 in
set_option maxRecDepth 100000 in
theorem kpX1_variable_b73 {h : pm_H} {x0 : Nat} {x1 : Int32} {x2 : Int32} {x3 : Int32} {r : pm_H} (hf : fX1_variable_b73 h x0 x1 x2 x3 = some r) : pm_S3 r h := by
  unfold fX1_variable_b73 at hf
  have K0 := pm_S3.rf h
  exact pm_S3.trans (kpX1_variable_b74 hf) K0
set_option maxHeartbeats 4000000 in
set_option maxRecDepth 100000 in
theorem kpX1_variable_b43 {h : pm_H} {x0 : Nat} {x1 : Int32} {x2 : Int32} {s0 : Int32} {r : pm_H} (hf : fX1_variable_b43 h x0 x1 x2 s0 = some r) : pm_S3 r h := by
  unfold fX1_variable_b43 at hf
  have K0 := pm_S3.rf h
  by_cases c14 : x1 = 36
  · have hf := pm_it hf c14
    by_cases c15 : s0 = 0
    · have hf := pm_it hf c15
      exact pm_S3.trans (kpX1_variable_b73 hf) K0
    · have hf := pm_ie hf c15
      obtain ⟨k16, hf⟩ := pm_if hf
      obtain ⟨v17, e18, hf⟩ := pm_bd hf
      obtain ⟨k19, hf⟩ := pm_if hf
      obtain ⟨v20, e21, hf⟩ := pm_bd hf
      by_cases c22 : v20 = 0
      · have hf := pm_it hf c22
        exact pm_S3.trans (kpX1_variable_b74 hf) K0
      · have hf := pm_ie hf c22
        exact pm_S3.trans (kpX1_variable_b73 hf) K0
  · have hf := pm_ie hf c14
    exact pm_S3.trans (kpX1_variable_b73 hf) K0
set_option maxHeartbeats 4000000 in
set_option maxRecDepth 100000 in
theorem kpX1_variable {h : pm_H} {a0 : Nat} {p1 : Int32} {r : pm_H} (hf : fX1_variable h a0 p1 = some r) : pm_S3 r h := by
  unfold fX1_variable at hf
  have K0 := pm_S3.rf h
  obtain ⟨k1, hf⟩ := pm_if hf
  obtain ⟨v2, e3, hf⟩ := pm_bd hf
  obtain ⟨k4, hf⟩ := pm_if hf
  obtain ⟨v5, e6, hf⟩ := pm_lt hf
  by_cases c7 : 34 < p1
  · have hf := pm_it hf c7
    obtain ⟨v8, e9, hf⟩ := pm_bd hf
    obtain ⟨k10, hf⟩ := pm_if hf
    obtain ⟨v11, e12, hf⟩ := pm_bd hf
    exact pm_S3.trans (kpX1_variable_b43 hf) K0
  · have hf := pm_ie hf c7
    by_cases c13 : (pm_I h a0 12) ≤ v5
    · have hf := pm_it hf c13
      exact pm_S3.trans (kpX1_variable_b43 hf) K0
    · have hf := pm_ie hf c13
      exact pm_S3.trans (kpX1_variable_b43 hf) K0
set_option maxHeartbeats 4000000 in
set_option maxRecDepth 100000 in
theorem klX2_branchByTable {r : pm_H} : ∀ n : Nat, (∀ (x0 : Nat) (x1 : Int32) (x2 : Int32) (x3 : Int32) (x5 : Int32) (h : pm_H), pm_iter sX2_branchByTable n (x0, x1, x2, x3, x5, h) = some r → pm_S3 r h) := by
  intro n
  induction n with
  | zero => exact fun _ _ _ _ _ _ hf => (by cases hf)
  | succ n ih =>
    refine fun x0 x1 x2 x3 x5 h hf => ?_
    obtain ⟨y, hf, hi⟩ := pm_iter_s hf
    have hf : tX2_branchByTable_43 x0 x1 x2 x3 x5 h = some y := hf
    unfold tX2_branchByTable_43 at hf
    have K0 := pm_S3.rf h
    by_cases c19 : x2 < x5
    · have hf := pm_it hf c19
      obtain ⟨k20, hf⟩ := pm_if hf
      cases hf
      cases hi
      exact K0
    · have hf := pm_ie hf c19
      obtain ⟨k21, hf⟩ := pm_if hf
      obtain ⟨v22, e23, hf⟩ := pm_bd hf
      have K24 := pm_S3.trans (kpX2_branch e23) K0
      obtain ⟨y25, e26, hf⟩ := pm_lt hf
      cases hf
      exact pm_S3.trans (ih x0 x1 x2 x3 y25 v22.2 hi) K24
set_option maxHeartbeats 4000000 in
set_option maxRecDepth 100000 in
theorem kpX2_branchByTable {h : pm_H} {a0 : Nat} {p1 : Int32} {p2 : Int32} {p3 : Int32} {r : pm_H} (hf : fX2_branchByTable h a0 p1 p2 p3 = some r) : pm_S3 r h := by
  unfold fX2_branchByTable at hf
  have K0 := pm_S3.rf h
  obtain ⟨k1, hf⟩ := pm_if hf
  obtain ⟨v2, e3, hf⟩ := pm_bd hf
  have K4 := pm_S3.trans (kpX2_emit e3) K0
  obtain ⟨k5, hf⟩ := pm_if hf
  obtain ⟨v6, e7, hf⟩ := pm_bd hf
  obtain ⟨v8, e9, hf⟩ := pm_bd hf
  obtain ⟨v10, e11, hf⟩ := pm_bd hf
  have K12 := pm_S3.trans (kpX12_setItem e11) K4
  obtain ⟨k13, hf⟩ := pm_if hf
  obtain ⟨v14, e15, hf⟩ := pm_bd hf
  obtain ⟨v16, e17, hf⟩ := pm_bd hf
  have K18 := pm_S3.trans (kpX12_setItem e17) K12
  obtain ⟨n, hn⟩ := pm_lim_iter hf
  exact pm_S3.trans ((klX2_branchByTable n) a0 p1 p2 p3 0 v16 hn) K18
set_option maxHeartbeats 4000000 in
set_option maxRecDepth 100000 in
theorem klX2_calling {r : pm_H} : ∀ n : Nat, (∀ (x0 : Nat) (x1 : Int32) (x2 : Int32) (x3 : Int32) (s0 : Int32) (h : pm_H), pm_iter sX2_calling n (.inl (x0, x1, x2, x3, s0, h)) = some r → pm_S3 r h) ∧ (∀ (x0 : Nat) (x7 : Int32) (x8 : Int32) (h : pm_H), pm_iter sX2_calling n (.inr (x0, x7, x8, h)) = some r → pm_S3 r h) := by
  intro n
  induction n with
  | zero => exact ⟨fun _ _ _ _ _ _ hf => (by cases hf), fun _ _ _ _ hf => (by cases hf)⟩
  | succ n ih =>
    refine ⟨fun x0 x1 x2 x3 s0 h hf => ?_, ?_⟩
    · obtain ⟨y, hf, hi⟩ := pm_iter_s hf
      have hf : tX2_calling_13 x0 x1 x2 x3 s0 h = some y := hf
      unfold tX2_calling_13 at hf
      have K0 := pm_S3.rf h
      obtain ⟨k2, hf⟩ := pm_if hf
      obtain ⟨v3, e4, hf⟩ := pm_bd hf
      obtain ⟨k5, hf⟩ := pm_if hf
      obtain ⟨v6, e7, hf⟩ := pm_bd hf
      obtain ⟨y8, e9, hf⟩ := pm_lt hf
      obtain ⟨v10, e11, hf⟩ := pm_bd hf
      have K12 := pm_S3.trans (kpX2_emit e11) K0
      obtain ⟨k13, hf⟩ := pm_if hf
      obtain ⟨v14, e15, hf⟩ := pm_bd hf
      obtain ⟨v16, e17, hf⟩ := pm_bd hf
      have K18 := pm_S3.trans (kpX12_setItem e17) K12
      obtain ⟨k19, hf⟩ := pm_if hf
      obtain ⟨v20, e21, hf⟩ := pm_bd hf
      obtain ⟨v22, e23, hf⟩ := pm_bd hf
      obtain ⟨v24, e25, hf⟩ := pm_bd hf
      have K26 := pm_S3.trans (kpX12_setItem e25) K18
      obtain ⟨k27, hf⟩ := pm_if hf
      obtain ⟨v28, e29, hf⟩ := pm_bd hf
      obtain ⟨v30, e31, hf⟩ := pm_bd hf
      obtain ⟨k32, hf⟩ := pm_if hf
      obtain ⟨v33, e34, hf⟩ := pm_bd hf
      obtain ⟨v35, e36, hf⟩ := pm_bd hf
      have K37 := pm_S3.trans (kpX12_setItem e36) K26
      obtain ⟨k38, hf⟩ := pm_if hf
      obtain ⟨v39, e40, hf⟩ := pm_bd hf
      obtain ⟨v41, e42, hf⟩ := pm_bd hf
      obtain ⟨k43, hf⟩ := pm_if hf
      obtain ⟨v44, e45, hf⟩ := pm_bd hf
      obtain ⟨v46, e47, hf⟩ := pm_bd hf
      have K48 := pm_S3.trans (kpX12_setItem e47) K37
      obtain ⟨k49, hf⟩ := pm_if hf
      obtain ⟨v50, e51, hf⟩ := pm_bd hf
      obtain ⟨k52, hf⟩ := pm_if hf
      obtain ⟨v53, e54, hf⟩ := pm_bd hf
      cases hf
      exact pm_S3.trans (ih.2 x0 v53 y8 v46 hi) K48
    refine fun x0 x7 x8 h hf => ?_
    obtain ⟨y, hf, hi⟩ := pm_iter_s hf
    have hf : tX2_calling_132 x0 x7 x8 h = some y := hf
    unfold tX2_calling_132 at hf
    have K0 := pm_S3.rf h
    by_cases c55 : x7 ≤ x8
    · have hf := pm_it hf c55
      cases hf
      cases hi
      exact K0
    · have hf := pm_ie hf c55
      obtain ⟨k56, hf⟩ := pm_if hf
      obtain ⟨v57, e58, hf⟩ := pm_bd hf
      obtain ⟨v59, e60, hf⟩ := pm_bd hf
      have K61 := pm_S3.trans (kpX12_setItem e60) K0
      obtain ⟨y62, e63, hf⟩ := pm_lt hf
      cases hf
      exact pm_S3.trans (ih.2 x0 x7 y62 v59 hi) K61
set_option maxHeartbeats 4000000 in
set_option maxRecDepth 100000 in
theorem kpX2_calling {h : pm_H} {a0 : Nat} {p1 : Int32} {p2 : Int32} {p3 : Int32} {r : pm_H} (hf : fX2_calling h a0 p1 p2 p3 = some r) : pm_S3 r h := by
  unfold fX2_calling at hf
  have K0 := pm_S3.rf h
  by_cases c1 : p2 = 17
  · have hf := pm_it hf c1
    obtain ⟨n, hn⟩ := pm_lim_iter hf
    exact pm_S3.trans ((klX2_calling n).1 a0 p1 p2 p3 (p3 - 1) h hn) K0
  · have hf := pm_ie hf c1
    obtain ⟨n, hn⟩ := pm_lim_iter hf
    exact pm_S3.trans ((klX2_calling n).1 a0 p1 p2 p3 p3 h hn) K0
set_option maxHeartbeats 4000000 in
set_option maxRecDepth 100000 in
theorem kpX2_condition {h : pm_H} {a0 : Nat} {p1 : Int32} {p2 : Int32} {r : pm_H} (hf : fX2_condition h a0 p1 p2 = some r) : pm_S3 r h := by
  unfold fX2_condition at hf
  have K0 := pm_S3.rf h
  obtain ⟨k1, hf⟩ := pm_if hf
  obtain ⟨v2, e3, hf⟩ := pm_bd hf
  have K4 := pm_S3.trans (kpX2_emit e3) K0
  obtain ⟨k5, hf⟩ := pm_if hf
  obtain ⟨v6, e7, hf⟩ := pm_bd hf
  obtain ⟨v8, e9, hf⟩ := pm_bd hf
  obtain ⟨v10, e11, hf⟩ := pm_bd hf
  have K12 := pm_S3.trans (kpX12_setItem e11) K4
  obtain ⟨k13, hf⟩ := pm_if hf
  obtain ⟨v14, e15, hf⟩ := pm_bd hf
  obtain ⟨v16, e17, hf⟩ := pm_bd hf
  have K18 := pm_S3.trans (kpX12_setItem e17) K12
  cases hf
  exact K18
set_option maxHeartbeats 4000000 in
set_option maxRecDepth 100000 in
theorem kpX2_translate_b85 {h : pm_H} {x0 : Nat} {x1 : Int32} {x2 : Int32} {x3 : Int32} {x4 : Int32} {r : (Int32 × pm_H)} (hf : fX2_translate_b85 h x0 x1 x2 x3 x4 = some r) : pm_S3 r.2 h := by
  unfold fX2_translate_b85 at hf
  have K0 := pm_S3.rf h
  obtain ⟨k29, hf⟩ := pm_if hf
  obtain ⟨v30, e31, hf⟩ := pm_bd hf
  obtain ⟨v32, e33, hf⟩ := pm_bd hf
  have K34 := pm_S3.trans (kpX12_setItem e33) K0
  obtain ⟨v35, e36, hf⟩ := pm_lt hf
  obtain ⟨k37, hf⟩ := pm_if hf
  obtain ⟨v38, e39, hf⟩ := pm_bd hf
  have K40 := pm_S3.trans (kpX2_own e39) K34
  by_cases c41 : x2 = 1
  · have hf := pm_it hf c41
    obtain ⟨k42, hf⟩ := pm_if hf
    obtain ⟨y43, e44, hf⟩ := pm_lt hf
    cases hf
    exact K40
  have hf := pm_ie hf c41
  by_cases c45 : x2 = 4
  · have hf := pm_it hf c45
    obtain ⟨k46, hf⟩ := pm_if hf
    obtain ⟨v47, e48, hf⟩ := pm_bd hf
    have K49 := pm_S3.trans (kpX2_condition e48) K40
    cases hf
    exact K49
  have hf := pm_ie hf c45
  by_cases c50 : x2 = 5
  · have hf := pm_it hf c50
    obtain ⟨k51, hf⟩ := pm_if hf
    obtain ⟨v52, e53, hf⟩ := pm_bd hf
    obtain ⟨v54, e55, hf⟩ := pm_bd hf
    have K56 := pm_S3.trans (kpX2_emit e55) K40
    obtain ⟨v57, e58, hf⟩ := pm_bd hf
    have K59 := pm_S3.trans (kpX12_setItem e58) K56
    obtain ⟨k60, hf⟩ := pm_if hf
    cases hf
    exact K59
  have hf := pm_ie hf c50
  by_cases c61 : x2 = 11
  · have hf := pm_it hf c61
    obtain ⟨k62, hf⟩ := pm_if hf
    obtain ⟨v63, e64, hf⟩ := pm_bd hf
    obtain ⟨v65, e66, hf⟩ := pm_bd hf
    have K67 := pm_S3.trans (kpX2_emit e66) K40
    obtain ⟨v68, e69, hf⟩ := pm_bd hf
    have K70 := pm_S3.trans (kpX12_setItem e69) K67
    obtain ⟨k71, hf⟩ := pm_if hf
    cases hf
    exact K70
  have hf := pm_ie hf c61
  by_cases c72 : x2 = 12
  · have hf := pm_it hf c72
    obtain ⟨k73, hf⟩ := pm_if hf
    obtain ⟨v74, e75, hf⟩ := pm_bd hf
    have K76 := pm_S3.trans (kpX2_branch e75) K40
    obtain ⟨k77, hf⟩ := pm_if hf
    cases hf
    exact K76
  have hf := pm_ie hf c72
  by_cases c78 : x2 = 13
  · have hf := pm_it hf c78
    obtain ⟨k79, hf⟩ := pm_if hf
    obtain ⟨v80, e81, hf⟩ := pm_bd hf
    obtain ⟨v82, e83, hf⟩ := pm_bd hf
    have K84 := pm_S3.trans (kpX2_branch e83) K40
    obtain ⟨k85, hf⟩ := pm_if hf
    obtain ⟨v86, e87, hf⟩ := pm_bd hf
    obtain ⟨v88, e89, hf⟩ := pm_bd hf
    have K90 := pm_S3.trans (kpX12_setItem e89) K84
    cases hf
    exact K90
  have hf := pm_ie hf c78
  by_cases c91 : x2 = 14
  · have hf := pm_it hf c91
    obtain ⟨k92, hf⟩ := pm_if hf
    obtain ⟨v93, e94, hf⟩ := pm_bd hf
    have K95 := pm_S3.trans (kpX2_branchByTable e94) K40
    cases hf
    exact K95
  have hf := pm_ie hf c91
  by_cases c96 : x2 = 16
  · have hf := pm_it hf c96
    obtain ⟨k97, hf⟩ := pm_if hf
    obtain ⟨v98, e99, hf⟩ := pm_bd hf
    have K100 := pm_S3.trans (kpX2_calling e99) K40
    cases hf
    exact K100
  have hf := pm_ie hf c96
  by_cases c101 : x2 = 17
  · have hf := pm_it hf c101
    obtain ⟨k102, hf⟩ := pm_if hf
    obtain ⟨v103, e104, hf⟩ := pm_bd hf
    have K105 := pm_S3.trans (kpX2_calling e104) K40
    cases hf
    exact K105
  have hf := pm_ie hf c101
  by_cases c106 : x2 = 26
  · have hf := pm_it hf c106
    obtain ⟨k107, hf⟩ := pm_if hf
    obtain ⟨y108, e109, hf⟩ := pm_lt hf
    cases hf
    exact K40
  have hf := pm_ie hf c106
  by_cases c110 : x2 = 32
  · have hf := pm_it hf c110
    obtain ⟨k111, hf⟩ := pm_if hf
    obtain ⟨v112, e113, hf⟩ := pm_bd hf
    have K114 := pm_S3.trans (kpX2_hold e113) K40
    cases hf
    exact K114
  have hf := pm_ie hf c110
  by_cases c115 : x2 = 33
  · have hf := pm_it hf c115
    obtain ⟨k116, hf⟩ := pm_if hf
    obtain ⟨v117, e118, hf⟩ := pm_bd hf
    have K119 := pm_S3.trans (kpX2_setLocal e118) K40
    cases hf
    exact K119
  have hf := pm_ie hf c115
  by_cases c120 : x2 = 34
  · have hf := pm_it hf c120
    obtain ⟨k121, hf⟩ := pm_if hf
    obtain ⟨v122, e123, hf⟩ := pm_bd hf
    have K124 := pm_S3.trans (kpX2_setLocal e123) K40
    cases hf
    exact K124
  have hf := pm_ie hf c120
  by_cases c125 : x2 = 65
  · have hf := pm_it hf c125
    obtain ⟨k126, hf⟩ := pm_if hf
    obtain ⟨v127, e128, hf⟩ := pm_bd hf
    have K129 := pm_S3.trans (kpX2_holdConstant e128) K40
    cases hf
    exact K129
  have hf := pm_ie hf c125
  obtain ⟨k130, hf⟩ := pm_if hf
  obtain ⟨v131, e132, hf⟩ := pm_bd hf
  have K133 := pm_S3.trans (kpX2_plain e132) K40
  cases hf
  exact K133
set_option maxHeartbeats 4000000 in
set_option maxRecDepth 100000 in
theorem kpX2_translate {h : pm_H} {a0 : Nat} {p1 : Int32} {r : (Int32 × pm_H)} (hf : fX2_translate h a0 p1 = some r) : pm_S3 r.2 h := by
  unfold fX2_translate at hf
  have K0 := pm_S3.rf h
  obtain ⟨k1, hf⟩ := pm_if hf
  obtain ⟨v2, e3, hf⟩ := pm_bd hf
  obtain ⟨k4, hf⟩ := pm_if hf
  obtain ⟨v5, e6, hf⟩ := pm_bd hf
  obtain ⟨v7, e8, hf⟩ := pm_bd hf
  obtain ⟨v9, e10, hf⟩ := pm_bd hf
  by_cases c11 : (pm_I h a0 12) = 0
  · have hf := pm_it hf c11
    obtain ⟨v12, e13, hf⟩ := pm_bd hf
    have K14 := pm_S3.trans (kpX2_ownUnseen e13) K0
    exact pm_S3.trans (kpX2_translate_b85 hf) K14
  · have hf := pm_ie hf c11
    obtain ⟨v15, e16, hf⟩ := pm_bd hf
    obtain ⟨k17, hf⟩ := pm_if hf
    by_cases c18 : (Int32.ofNat (pm_ln h v15)) ≤ p1
    · have hf := pm_it hf c18
      exact pm_S3.trans (kpX2_translate_b85 hf) K0
    · have hf := pm_ie hf c18
      obtain ⟨u19, hf⟩ := pm_if hf
      by_cases c20 : (pm_I h v15 p1.toNatClampNeg) = 0
      · have hf := pm_it hf c20
        exact pm_S3.trans (kpX2_translate_b85 hf) K0
      · have hf := pm_ie hf c20
        obtain ⟨v21, e22, hf⟩ := pm_bd hf
        have K23 := pm_S3.trans (kpX2_own e22) K0
        obtain ⟨k24, hf⟩ := pm_if hf
        by_cases c25 : (pm_I v21 a0 11) ≤ 0
        · have hf := pm_it hf c25
          exact pm_S3.trans (kpX2_translate_b85 hf) K23
        · have hf := pm_ie hf c25
          obtain ⟨v26, e27, hf⟩ := pm_bd hf
          have K28 := pm_S3.trans (kpX2_emit e27) K23
          exact pm_S3.trans (kpX2_translate_b85 hf) K28
set_option maxHeartbeats 4000000 in
set_option maxRecDepth 100000 in
theorem kpX10_atTable {h : pm_H} {a0 : Nat} {p1 : Int32} {p2 : Int32} {p3 : Int64} {p4 : Int64} {r : (Int64 × pm_H)} (hf : fX10_atTable h a0 p1 p2 p3 p4 = some r) : pm_S3 r.2 h := by
  unfold fX10_atTable at hf
  have K0 := pm_S3.rf h
  obtain ⟨k1, hf⟩ := pm_if hf
  obtain ⟨v2, e3, hf⟩ := pm_bd hf
  obtain ⟨k4, hf⟩ := pm_if hf
  obtain ⟨v5, e6, hf⟩ := pm_bd hf
  by_cases c7 : v5 = 0
  · have hf := pm_it hf c7
    cases hf
    exact K0
  · have hf := pm_ie hf c7
    by_cases c8 : p2 = 37
    · have hf := pm_it hf c8
      obtain ⟨v9, e10, hf⟩ := pm_bd hf
      cases hf
      exact K0
    · have hf := pm_ie hf c8
      obtain ⟨v11, e12, hf⟩ := pm_bd hf
      have K13 := pm_S3.trans (kpX11_setEntry e12) K0
      cases hf
      exact K13
set_option maxHeartbeats 4000000 in
set_option maxRecDepth 100000 in
theorem kpX12_offer {h : pm_H} {a0 : Nat} {p1 : Int32} {p2 : Int32} {r : (Int32 × pm_H)} (hf : fX12_offer h a0 p1 p2 = some r) : pm_S3 r.2 h := by
  unfold fX12_offer at hf
  have K0 := pm_S3.rf h
  obtain ⟨k1, hf⟩ := pm_if hf
  by_cases c2 : (pm_I h a0 13) < 64
  · have hf := pm_it hf c2
    by_cases c3 : p1 = (-1)
    · have hf := pm_it hf c3
      by_cases c4 : p2 < 0
      · have hf := pm_it hf c4
        cases hf
        exact K0
      · have hf := pm_ie hf c4
        by_cases c5 : p2 ≤ 63
        · have hf := pm_it hf c5
          obtain ⟨v6, e7, hf⟩ := pm_bd hf
          have K8 := pm_S3.trans (kpX12_offerOf e7) K0
          cases hf
          exact K8
        · have hf := pm_ie hf c5
          cases hf
          exact K0
    · have hf := pm_ie hf c3
      obtain ⟨v9, e10, hf⟩ := pm_bd hf
      obtain ⟨k11, hf⟩ := pm_if hf
      obtain ⟨v12, e13, hf⟩ := pm_bd hf
      obtain ⟨k14, hf⟩ := pm_if hf
      obtain ⟨v15, e16, hf⟩ := pm_bd hf
      by_cases c17 : 0 ≤ v15
      · have hf := pm_it hf c17
        obtain ⟨v18, e19, hf⟩ := pm_bd hf
        obtain ⟨v20, e21, hf⟩ := pm_bd hf
        have K22 := pm_S3.trans (kpX12_offerOf e21) K0
        cases hf
        exact K22
      · have hf := pm_ie hf c17
        cases hf
        exact K0
  · have hf := pm_ie hf c2
    cases hf
    exact K0
set_option maxHeartbeats 4000000 in
set_option maxRecDepth 100000 in
theorem klX16_accesses1 {r : pm_H} : ∀ n : Nat, (∀ (x0 : Nat) (x1 : Int32) (x6 : Int32) (x7 : Int32) (x8 : Int64) (x10 : Int64) (x12 : Int32) (h : pm_H), pm_iter sX16_accesses1 n (.inl (x0, x1, x6, x7, x8, x10, x12, h)) = some r → pm_S3 r h) ∧ (∀ (x0 : Nat) (x6 : Int32) (x7 : Int32) (x8 : Int64) (x10 : Int64) (x12 : Int32) (h : pm_H), pm_iter sX16_accesses1 n (.inr (x0, x6, x7, x8, x10, x12, h)) = some r → pm_S3 r h) := by
  intro n
  induction n with
  | zero => exact ⟨fun _ _ _ _ _ _ _ _ hf => (by cases hf), fun _ _ _ _ _ _ _ hf => (by cases hf)⟩
  | succ n ih =>
    refine ⟨fun x0 x1 x6 x7 x8 x10 x12 h hf => ?_, ?_⟩
    · obtain ⟨y, hf, hi⟩ := pm_iter_s hf
      have hf : tX16_accesses1_136 x0 x1 x6 x7 x8 x10 x12 h = some y := hf
      unfold tX16_accesses1_136 at hf
      have K0 := pm_S3.rf h
      by_cases c57 : x6 ≤ x12
      · have hf := pm_it hf c57
        obtain ⟨y58, e59, hf⟩ := pm_lt hf
        by_cases c60 : x1 ≤ 43
        · have hf := pm_it hf c60
          obtain ⟨v61, e62, hf⟩ := pm_lt hf
          obtain ⟨v63, e64, hf⟩ := pm_lt hf
          obtain ⟨k65, hf⟩ := pm_if hf
          obtain ⟨v66, e67, hf⟩ := pm_bd hf
          have K68 := pm_S3.trans (kpX16_push e67) K0
          cases hf
          cases hi
          exact K68
        · have hf := pm_ie hf c60
          by_cases c69 : (x1 - x1 / 2 * 2) = 0
          · have hf := pm_it hf c69
            obtain ⟨y70, e71, hf⟩ := pm_lt hf
            obtain ⟨v72, e73, hf⟩ := pm_lt hf
            obtain ⟨v74, e75, hf⟩ := pm_lt hf
            obtain ⟨k76, hf⟩ := pm_if hf
            obtain ⟨v77, e78, hf⟩ := pm_bd hf
            have K79 := pm_S3.trans (kpX16_push e78) K0
            cases hf
            cases hi
            exact K79
          · have hf := pm_ie hf c69
            obtain ⟨v80, e81, hf⟩ := pm_lt hf
            obtain ⟨v82, e83, hf⟩ := pm_lt hf
            obtain ⟨k84, hf⟩ := pm_if hf
            obtain ⟨v85, e86, hf⟩ := pm_bd hf
            have K87 := pm_S3.trans (kpX16_push e86) K0
            cases hf
            cases hi
            exact K87
      · have hf := pm_ie hf c57
        obtain ⟨k88, hf⟩ := pm_if hf
        obtain ⟨v89, e90, hf⟩ := pm_bd hf
        obtain ⟨y91, e92, hf⟩ := pm_lt hf
        obtain ⟨y93, e94, hf⟩ := pm_lt hf
        cases hf
        exact pm_S3.trans (ih.1 x0 x1 x6 x7 y91 x10 y93 h hi) K0
    refine fun x0 x6 x7 x8 x10 x12 h hf => ?_
    obtain ⟨y, hf, hi⟩ := pm_iter_s hf
    have hf : tX16_accesses1_97 x0 x6 x7 x8 x10 x12 h = some y := hf
    unfold tX16_accesses1_97 at hf
    have K0 := pm_S3.rf h
    by_cases c95 : x6 ≤ x12
    · have hf := pm_it hf c95
      cases hf
      cases hi
      exact K0
    · have hf := pm_ie hf c95
      obtain ⟨k96, hf⟩ := pm_if hf
      obtain ⟨v97, e98, hf⟩ := pm_bd hf
      have K99 := pm_S3.trans (kpX16_sets e98) K0
      obtain ⟨y100, e101, hf⟩ := pm_lt hf
      cases hf
      exact pm_S3.trans (ih.2 x0 x6 x7 x8 x10 y100 v97 hi) K99
set_option maxHeartbeats 4000000 in
set_option maxRecDepth 100000 in
theorem kpX16_accesses1 {h : pm_H} {a0 : Nat} {p1 : Int32} {r : pm_H} (hf : fX16_accesses1 h a0 p1 = some r) : pm_S3 r h := by
  unfold fX16_accesses1 at hf
  have K0 := pm_S3.rf h
  obtain ⟨k1, hf⟩ := pm_if hf
  obtain ⟨v2, e3, hf⟩ := pm_bd hf
  have K4 := pm_S3.trans (kpX16_word e3) K0
  obtain ⟨k5, hf⟩ := pm_if hf
  obtain ⟨v6, e7, hf⟩ := pm_bd hf
  have K8 := pm_S3.trans (kpX16_word e7) K4
  obtain ⟨v9, e10, hf⟩ := pm_lt hf
  obtain ⟨y11, e12, hf⟩ := pm_lt hf
  obtain ⟨k13, hf⟩ := pm_if hf
  obtain ⟨v14, e15, hf⟩ := pm_bd hf
  obtain ⟨y16, e17, hf⟩ := pm_lt hf
  obtain ⟨k18, hf⟩ := pm_if hf
  obtain ⟨u19, hf⟩ := pm_if hf
  obtain ⟨y20, e21, hf⟩ := pm_lt hf
  by_cases c22 : p1 ≤ 53
  · have hf := pm_it hf c22
    obtain ⟨v23, e24, hf⟩ := pm_bd hf
    have K25 := pm_S3.trans (kpX16_pop e24) K8
    obtain ⟨y26, e27, hf⟩ := pm_lt hf
    obtain ⟨k28, hf⟩ := pm_if hf
    obtain ⟨v29, e30, hf⟩ := pm_bd hf
    obtain ⟨k31, hf⟩ := pm_if hf
    obtain ⟨u32, hf⟩ := pm_if hf
    by_cases c33 : (y26 + y11.toInt64) ≤ (65536 * ((pm_I v23.2 v29 y20.toNatClampNeg).toInt64))
    · have hf := pm_it hf c33
      by_cases c34 : p1 ≤ 53
      · have hf := pm_it hf c34
        obtain ⟨n, hn⟩ := pm_lim_iter hf
        exact pm_S3.trans ((klX16_accesses1 n).1 a0 p1 y11 y20 0 y26 0 v23.2 hn) K25
      · have hf := pm_ie hf c34
        obtain ⟨n, hn⟩ := pm_lim_iter hf
        exact pm_S3.trans ((klX16_accesses1 n).2 a0 y11 y20 0 y26 0 v23.2 hn) K25
    · have hf := pm_ie hf c33
      obtain ⟨v35, e36, hf⟩ := pm_bd hf
      have K37 := pm_S3.trans (kpX16_endsBy e36) K25
      cases hf
      exact K37
  · have hf := pm_ie hf c22
    obtain ⟨v38, e39, hf⟩ := pm_bd hf
    have K40 := pm_S3.trans (kpX16_pop e39) K8
    obtain ⟨k41, hf⟩ := pm_if hf
    obtain ⟨v42, e43, hf⟩ := pm_bd hf
    have K44 := pm_S3.trans (kpX16_pop e43) K40
    obtain ⟨y45, e46, hf⟩ := pm_lt hf
    obtain ⟨k47, hf⟩ := pm_if hf
    obtain ⟨v48, e49, hf⟩ := pm_bd hf
    obtain ⟨k50, hf⟩ := pm_if hf
    obtain ⟨u51, hf⟩ := pm_if hf
    by_cases c52 : (y45 + y11.toInt64) ≤ (65536 * ((pm_I v42.2 v48 y20.toNatClampNeg).toInt64))
    · have hf := pm_it hf c52
      by_cases c53 : p1 ≤ 53
      · have hf := pm_it hf c53
        obtain ⟨n, hn⟩ := pm_lim_iter hf
        exact pm_S3.trans ((klX16_accesses1 n).1 a0 p1 y11 y20 v38.1 y45 0 v42.2 hn) K44
      · have hf := pm_ie hf c53
        obtain ⟨n, hn⟩ := pm_lim_iter hf
        exact pm_S3.trans ((klX16_accesses1 n).2 a0 y11 y20 v38.1 y45 0 v42.2 hn) K44
    · have hf := pm_ie hf c52
      obtain ⟨v54, e55, hf⟩ := pm_bd hf
      have K56 := pm_S3.trans (kpX16_endsBy e55) K44
      cases hf
      exact K56
set_option maxHeartbeats 4000000 in
set_option maxRecDepth 100000 in
theorem klX16_behind {r : (Int32 × pm_H)} : ∀ n : Nat, (∀ (x0 : Nat) (x2 : Int32) (h : pm_H), pm_iter sX16_behind n (.inl (x0, x2, h)) = some r → pm_S3 r.2 h) ∧ (∀ (x0 : Nat) (x2 : Int32) (h : pm_H), pm_iter sX16_behind n (.inr (.inl (x0, x2, h))) = some r → pm_S3 r.2 h) ∧ (∀ (x0 : Nat) (x3 : Int64) (x5 : Int64) (h : pm_H), pm_iter sX16_behind n (.inr (.inr (x0, x3, x5, h))) = some r → pm_S3 r.2 h) := by
  intro n
  induction n with
  | zero => exact ⟨fun _ _ _ hf => (by cases hf), fun _ _ _ hf => (by cases hf), fun _ _ _ _ hf => (by cases hf)⟩
  | succ n ih =>
    refine ⟨fun x0 x2 h hf => ?_, ?_⟩
    · obtain ⟨y, hf, hi⟩ := pm_iter_s hf
      have hf : tX16_behind_34 x0 x2 h = some y := hf
      unfold tX16_behind_34 at hf
      have K0 := pm_S3.rf h
      obtain ⟨v15, e16, hf⟩ := pm_lt hf
      by_cases c17 : v15 = 0
      · have hf := pm_it hf c17
        obtain ⟨v18, e19, hf⟩ := pm_lt hf
        by_cases c20 : v18 = 0
        · have hf := pm_it hf c20
          by_cases c21 : x2 = 17
          · have hf := pm_it hf c21
            obtain ⟨k22, hf⟩ := pm_if hf
            obtain ⟨v23, e24, hf⟩ := pm_bd hf
            have K25 := pm_S3.trans (kpX16_word e24) K0
            obtain ⟨k26, hf⟩ := pm_if hf
            obtain ⟨v27, e28, hf⟩ := pm_bd hf
            have K29 := pm_S3.trans (kpX16_word e28) K25
            obtain ⟨k30, hf⟩ := pm_if hf
            cases hf
            cases hi
            exact K29
          · have hf := pm_ie hf c21
            by_cases c31 : x2 = 14
            · have hf := pm_it hf c31
              obtain ⟨k32, hf⟩ := pm_if hf
              obtain ⟨v33, e34, hf⟩ := pm_bd hf
              have K35 := pm_S3.trans (kpX16_word e34) K0
              cases hf
              exact pm_S3.trans (ih.2.2 x0 v33.1 0 v33.2 hi) K35
            · have hf := pm_ie hf c31
              by_cases c36 : x2 = 28
              · have hf := pm_it hf c36
                obtain ⟨k37, hf⟩ := pm_if hf
                obtain ⟨v38, e39, hf⟩ := pm_bd hf
                have K40 := pm_S3.trans (kpX16_word e39) K0
                obtain ⟨k41, hf⟩ := pm_if hf
                obtain ⟨y42, e43, hf⟩ := pm_lt hf
                cases hf
                cases hi
                exact K40
              · have hf := pm_ie hf c36
                by_cases c44 : x2 = 63
                · have hf := pm_it hf c44
                  obtain ⟨k45, hf⟩ := pm_if hf
                  obtain ⟨y46, e47, hf⟩ := pm_lt hf
                  cases hf
                  cases hi
                  exact K0
                · have hf := pm_ie hf c44
                  by_cases c48 : x2 = 64
                  · have hf := pm_it hf c48
                    obtain ⟨k49, hf⟩ := pm_if hf
                    obtain ⟨y50, e51, hf⟩ := pm_lt hf
                    cases hf
                    cases hi
                    exact K0
                  · have hf := pm_ie hf c48
                    by_cases c52 : x2 = 208
                    · have hf := pm_it hf c52
                      obtain ⟨k53, hf⟩ := pm_if hf
                      obtain ⟨y54, e55, hf⟩ := pm_lt hf
                      cases hf
                      cases hi
                      exact K0
                    · have hf := pm_ie hf c52
                      by_cases c56 : x2 = 65
                      · have hf := pm_it hf c56
                        obtain ⟨k57, hf⟩ := pm_if hf
                        obtain ⟨v58, e59, hf⟩ := pm_bd hf
                        have K60 := pm_S3.trans (kpX16_signedWord e59) K0
                        obtain ⟨k61, hf⟩ := pm_if hf
                        cases hf
                        cases hi
                        exact K60
                      · have hf := pm_ie hf c56
                        by_cases c62 : x2 = 66
                        · have hf := pm_it hf c62
                          obtain ⟨k63, hf⟩ := pm_if hf
                          obtain ⟨v64, e65, hf⟩ := pm_bd hf
                          have K66 := pm_S3.trans (kpX16_signedWord e65) K0
                          obtain ⟨k67, hf⟩ := pm_if hf
                          cases hf
                          cases hi
                          exact K66
                        · have hf := pm_ie hf c62
                          by_cases c68 : x2 = 67
                          · have hf := pm_it hf c68
                            cases hf
                            exact pm_S3.trans (ih.2.1 x0 x2 h hi) K0
                          · have hf := pm_ie hf c68
                            by_cases c69 : x2 = 68
                            · have hf := pm_it hf c69
                              cases hf
                              exact pm_S3.trans (ih.2.1 x0 x2 h hi) K0
                            · have hf := pm_ie hf c69
                              by_cases c70 : x2 = 252
                              · have hf := pm_it hf c70
                                obtain ⟨k71, hf⟩ := pm_if hf
                                obtain ⟨v72, e73, hf⟩ := pm_bd hf
                                have K74 := pm_S3.trans (kpX16_passesFurther e73) K0
                                obtain ⟨k75, hf⟩ := pm_if hf
                                cases hf
                                cases hi
                                exact K74
                              · have hf := pm_ie hf c70
                                obtain ⟨k76, hf⟩ := pm_if hf
                                cases hf
                                cases hi
                                exact K0
        · have hf := pm_ie hf c20
          obtain ⟨k77, hf⟩ := pm_if hf
          obtain ⟨v78, e79, hf⟩ := pm_bd hf
          have K80 := pm_S3.trans (kpX16_word e79) K0
          obtain ⟨k81, hf⟩ := pm_if hf
          obtain ⟨v82, e83, hf⟩ := pm_bd hf
          have K84 := pm_S3.trans (kpX16_word e83) K80
          obtain ⟨k85, hf⟩ := pm_if hf
          cases hf
          cases hi
          exact K84
      · have hf := pm_ie hf c17
        obtain ⟨k86, hf⟩ := pm_if hf
        obtain ⟨v87, e88, hf⟩ := pm_bd hf
        have K89 := pm_S3.trans (kpX16_word e88) K0
        obtain ⟨k90, hf⟩ := pm_if hf
        cases hf
        cases hi
        exact K89
    refine ⟨fun x0 x2 h hf => ?_, ?_⟩
    · obtain ⟨y, hf, hi⟩ := pm_iter_s hf
      have hf : tX16_behind_204 x0 x2 h = some y := hf
      unfold tX16_behind_204 at hf
      have K0 := pm_S3.rf h
      obtain ⟨k99, hf⟩ := pm_if hf
      by_cases c100 : x2 = 67
      · have hf := pm_it hf c100
        obtain ⟨y101, e102, hf⟩ := pm_lt hf
        cases hf
        cases hi
        exact K0
      · have hf := pm_ie hf c100
        obtain ⟨y103, e104, hf⟩ := pm_lt hf
        cases hf
        cases hi
        exact K0
    refine fun x0 x3 x5 h hf => ?_
    obtain ⟨y, hf, hi⟩ := pm_iter_s hf
    have hf : tX16_behind_90 x0 x3 x5 h = some y := hf
    unfold tX16_behind_90 at hf
    have K0 := pm_S3.rf h
    by_cases c91 : x3 < x5
    · have hf := pm_it hf c91
      obtain ⟨k92, hf⟩ := pm_if hf
      cases hf
      cases hi
      exact K0
    · have hf := pm_ie hf c91
      obtain ⟨k93, hf⟩ := pm_if hf
      obtain ⟨v94, e95, hf⟩ := pm_bd hf
      have K96 := pm_S3.trans (kpX16_word e95) K0
      obtain ⟨y97, e98, hf⟩ := pm_lt hf
      cases hf
      exact pm_S3.trans (ih.2.2 x0 x3 y97 v94.2 hi) K96
set_option maxHeartbeats 4000000 in
set_option maxRecDepth 100000 in
theorem kpX16_behind {h : pm_H} {a0 : Nat} {p1 : Int32} {r : (Int32 × pm_H)} (hf : fX16_behind h a0 p1 = some r) : pm_S3 r.2 h := by
  unfold fX16_behind at hf
  have K0 := pm_S3.rf h
  obtain ⟨k1, hf⟩ := pm_if hf
  obtain ⟨v2, e3, hf⟩ := pm_bd hf
  obtain ⟨k4, hf⟩ := pm_if hf
  obtain ⟨v5, e6, hf⟩ := pm_bd hf
  obtain ⟨y7, e8, hf⟩ := pm_lt hf
  by_cases c9 : v5 < 2
  · have hf := pm_it hf c9
    obtain ⟨n, hn⟩ := pm_lim_iter hf
    exact pm_S3.trans ((klX16_behind n).1 a0 v5 (pm_setI h a0 19 y7) hn) K0
  · have hf := pm_ie hf c9
    by_cases c10 : 4 < v5
    · have hf := pm_it hf c10
      obtain ⟨n, hn⟩ := pm_lim_iter hf
      exact pm_S3.trans ((klX16_behind n).1 a0 v5 (pm_setI h a0 19 y7) hn) K0
    · have hf := pm_ie hf c10
      obtain ⟨v11, e12, hf⟩ := pm_bd hf
      have K13 := pm_S3.trans (kpX16_blockWord e12) K0
      obtain ⟨k14, hf⟩ := pm_if hf
      cases hf
      exact K13
