set_option maxHeartbeats 4000000 in
set_option maxRecDepth 100000 in
theorem kpX16_reckons_b49 {h : pm_H} {x2 : Int64} {x4 : Int64} {x6 : Int32} {s0 : Int32} {s1 : Int32} {r : (Int64 × pm_H)} (hf : fX16_reckons_b49 h x2 x4 x6 s0 s1 = some r) : pm_S3 r.2 h := by
  unfold fX16_reckons_b49 at hf
  have K0 := pm_S3.rf h
  by_cases c45 : x6 = 0
  · have hf := pm_it hf c45
    by_cases c46 : x6 = 0
    · have hf := pm_it hf c46
      obtain ⟨v47, e48, hf⟩ := pm_bd hf
      by_cases c49 : v47 = 0
      · have hf := pm_it hf c49
        cases hf
        exact K0
      · have hf := pm_ie hf c49
        cases hf
        exact K0
    · have hf := pm_ie hf c46
      obtain ⟨v50, e51, hf⟩ := pm_bd hf
      by_cases c52 : v50 = 0
      · have hf := pm_it hf c52
        cases hf
        exact K0
      · have hf := pm_ie hf c52
        cases hf
        exact K0
  · have hf := pm_ie hf c45
    by_cases c53 : x6 = 0
    · have hf := pm_it hf c53
      obtain ⟨v54, e55, hf⟩ := pm_bd hf
      by_cases c56 : v54 = 0
      · have hf := pm_it hf c56
        cases hf
        exact K0
      · have hf := pm_ie hf c56
        cases hf
        exact K0
    · have hf := pm_ie hf c53
      obtain ⟨v57, e58, hf⟩ := pm_bd hf
      by_cases c59 : v57 = 0
      · have hf := pm_it hf c59
        cases hf
        exact K0
      · have hf := pm_ie hf c59
        cases hf
        exact K0
set_option maxHeartbeats 4000000 in
set_option maxRecDepth 100000 in
theorem kpX16_reckons {h : pm_H} {a0 : Nat} {p1 : Int32} {p2 : Int64} {p3 : Int64} {r : (Int64 × pm_H)} (hf : fX16_reckons h a0 p1 p2 p3 = some r) : pm_S3 r.2 h := by
  unfold fX16_reckons at hf
  have K0 := pm_S3.rf h
  obtain ⟨v1, e2, hf⟩ := pm_lt hf
  by_cases c3 : p1 = 69
  · have hf := pm_it hf c3
    by_cases c4 : p2 = 0
    · have hf := pm_it hf c4
      cases hf
      exact K0
    · have hf := pm_ie hf c4
      cases hf
      exact K0
  · have hf := pm_ie hf c3
    by_cases c5 : p1 = 80
    · have hf := pm_it hf c5
      by_cases c6 : p2 = 0
      · have hf := pm_it hf c6
        cases hf
        exact K0
      · have hf := pm_ie hf c6
        cases hf
        exact K0
    · have hf := pm_ie hf c5
      by_cases c7 : 91 ≤ p1
      · have hf := pm_it hf c7
        by_cases c8 : 103 ≤ p1
        · have hf := pm_it hf c8
          by_cases c9 : 139 ≤ p1
          · have hf := pm_it hf c9
            by_cases c10 : 167 ≤ p1
            · have hf := pm_it hf c10
              obtain ⟨k11, hf⟩ := pm_if hf
              obtain ⟨v12, e13, hf⟩ := pm_bd hf
              have K14 := pm_S3.trans (kpX16_turned e13) K0
              cases hf
              exact K14
            · have hf := pm_ie hf c10
              by_cases c15 : v1 = 2
              · have hf := pm_it hf c15
                obtain ⟨k16, hf⟩ := pm_if hf
                obtain ⟨v17, e18, hf⟩ := pm_bd hf
                have K19 := pm_S3.trans (kpX16_real e18) K0
                cases hf
                exact K19
              · have hf := pm_ie hf c15
                obtain ⟨k20, hf⟩ := pm_if hf
                obtain ⟨v21, e22, hf⟩ := pm_bd hf
                have K23 := pm_S3.trans (kpX16_real e22) K0
                cases hf
                exact K23
          · have hf := pm_ie hf c9
            by_cases c24 : v1 = 0
            · have hf := pm_it hf c24
              obtain ⟨k25, hf⟩ := pm_if hf
              obtain ⟨v26, e27, hf⟩ := pm_bd hf
              have K28 := pm_S3.trans (kpX16_short32 e27) K0
              cases hf
              exact K28
            · have hf := pm_ie hf c24
              obtain ⟨k29, hf⟩ := pm_if hf
              obtain ⟨v30, e31, hf⟩ := pm_bd hf
              have K32 := pm_S3.trans (kpX16_long64 e31) K0
              cases hf
              exact K32
        · have hf := pm_ie hf c8
          by_cases c33 : v1 = 2
          · have hf := pm_it hf c33
            obtain ⟨k34, hf⟩ := pm_if hf
            obtain ⟨v35, e36, hf⟩ := pm_bd hf
            have K37 := pm_S3.trans (kpX16_isReal e36) K0
            by_cases c38 : v35.1 = 0
            · have hf := pm_it hf c38
              cases hf
              exact K37
            · have hf := pm_ie hf c38
              cases hf
              exact K37
          · have hf := pm_ie hf c33
            obtain ⟨k39, hf⟩ := pm_if hf
            obtain ⟨v40, e41, hf⟩ := pm_bd hf
            have K42 := pm_S3.trans (kpX16_isReal e41) K0
            by_cases c43 : v40.1 = 0
            · have hf := pm_it hf c43
              cases hf
              exact K42
            · have hf := pm_ie hf c43
              cases hf
              exact K42
      · have hf := pm_ie hf c7
        by_cases c44 : v1 = 0
        · have hf := pm_it hf c44
          exact pm_S3.trans (kpX16_reckons_b49 hf) K0
        · have hf := pm_ie hf c44
          exact pm_S3.trans (kpX16_reckons_b49 hf) K0
set_option maxHeartbeats 4000000 in
set_option maxRecDepth 100000 in
theorem klX16_startsUp {r : pm_H} : ∀ n : Nat, (∀ (x0 : Nat) (x1 : Int32) (x2 : Int32) (h : pm_H), pm_iter sX16_startsUp n (.inl (x0, x1, x2, h)) = some r → pm_S3 r h) ∧ (∀ (x0 : Nat) (x1 : Int32) (x2 : Int32) (h : pm_H), pm_iter sX16_startsUp n (.inr (x0, x1, x2, h)) = some r → pm_S3 r h) := by
  intro n
  induction n with
  | zero => exact ⟨fun _ _ _ _ hf => (by cases hf), fun _ _ _ _ hf => (by cases hf)⟩
  | succ n ih =>
    refine ⟨fun x0 x1 x2 h hf => ?_, ?_⟩
    · obtain ⟨y, hf, hi⟩ := pm_iter_s hf
      have hf : tX16_startsUp_2 x0 x1 x2 h = some y := hf
      unfold tX16_startsUp_2 at hf
      have K0 := pm_S3.rf h
      obtain ⟨k1, hf⟩ := pm_if hf
      obtain ⟨v2, e3, hf⟩ := pm_bd hf
      obtain ⟨k4, hf⟩ := pm_if hf
      by_cases c5 : (pm_I h v2 34) ≤ x2
      · have hf := pm_it hf c5
        cases hf
        exact pm_S3.trans (ih.2 x0 x1 0 h hi) K0
      · have hf := pm_ie hf c5
        obtain ⟨v6, e7, hf⟩ := pm_bd hf
        obtain ⟨k8, hf⟩ := pm_if hf
        obtain ⟨u9, hf⟩ := pm_if hf
        by_cases c10 : (pm_I h v6 x2.toNatClampNeg) = 0
        · have hf := pm_it hf c10
          obtain ⟨v11, e12, hf⟩ := pm_bd hf
          obtain ⟨k13, hf⟩ := pm_if hf
          obtain ⟨u14, hf⟩ := pm_if hf
          obtain ⟨v15, e16, hf⟩ := pm_bd hf
          have K17 := pm_S3.trans (kpX16_constant e16) K0
          obtain ⟨k18, hf⟩ := pm_if hf
          obtain ⟨v19, e20, hf⟩ := pm_bd hf
          obtain ⟨v21, e22, hf⟩ := pm_bd hf
          obtain ⟨k23, hf⟩ := pm_if hf
          obtain ⟨v24, e25, hf⟩ := pm_bd hf
          obtain ⟨k26, hf⟩ := pm_if hf
          obtain ⟨u27, hf⟩ := pm_if hf
          obtain ⟨y28, e29, hf⟩ := pm_lt hf
          obtain ⟨k30, hf⟩ := pm_if hf
          obtain ⟨u31, hf⟩ := pm_if hf
          obtain ⟨v32, e33, hf⟩ := pm_bd hf
          obtain ⟨k34, hf⟩ := pm_if hf
          obtain ⟨u35, hf⟩ := pm_if hf
          obtain ⟨v36, e37, hf⟩ := pm_bd hf
          have K38 := pm_S3.trans (kpX16_copiesElement e37) K17
          by_cases c39 : v36.1 = 0
          · have hf := pm_it hf c39
            obtain ⟨k40, hf⟩ := pm_if hf
            obtain ⟨v41, e42, hf⟩ := pm_bd hf
            have K43 := pm_S3.trans (kpX16_failsAtOnce e42) K38
            cases hf
            cases hi
            exact K43
          · have hf := pm_ie hf c39
            obtain ⟨k44, hf⟩ := pm_if hf
            obtain ⟨v45, e46, hf⟩ := pm_bd hf
            obtain ⟨k47, hf⟩ := pm_if hf
            obtain ⟨v48, e49, hf⟩ := pm_bd hf
            obtain ⟨k50, hf⟩ := pm_if hf
            obtain ⟨u51, hf⟩ := pm_if hf
            by_cases c52 : (pm_I v36.2 v48 x2.toNatClampNeg) = 1
            · have hf := pm_it hf c52
              obtain ⟨y53, e54, hf⟩ := pm_lt hf
              cases hf
              exact pm_S3.trans (ih.1 x0 x1 y53 v36.2 hi) K38
            · have hf := pm_ie hf c52
              obtain ⟨v55, e56, hf⟩ := pm_bd hf
              have K57 := pm_S3.trans (kpX16_dropped e56) K38
              obtain ⟨y58, e59, hf⟩ := pm_lt hf
              cases hf
              exact pm_S3.trans (ih.1 x0 x1 y58 v55 hi) K57
        · have hf := pm_ie hf c10
          obtain ⟨u60, hf⟩ := pm_if hf
          by_cases c61 : (pm_I h v6 x2.toNatClampNeg) = 1
          · have hf := pm_it hf c61
            obtain ⟨y62, e63, hf⟩ := pm_lt hf
            cases hf
            exact pm_S3.trans (ih.1 x0 x1 y62 h hi) K0
          · have hf := pm_ie hf c61
            obtain ⟨v64, e65, hf⟩ := pm_bd hf
            have K66 := pm_S3.trans (kpX16_dropped e65) K0
            obtain ⟨y67, e68, hf⟩ := pm_lt hf
            cases hf
            exact pm_S3.trans (ih.1 x0 x1 y67 v64 hi) K66
    refine fun x0 x1 x2 h hf => ?_
    obtain ⟨y, hf, hi⟩ := pm_iter_s hf
    have hf : tX16_startsUp_116 x0 x1 x2 h = some y := hf
    unfold tX16_startsUp_116 at hf
    have K0 := pm_S3.rf h
    obtain ⟨k69, hf⟩ := pm_if hf
    obtain ⟨v70, e71, hf⟩ := pm_bd hf
    obtain ⟨k72, hf⟩ := pm_if hf
    by_cases c73 : (pm_I h v70 44) ≤ x2
    · have hf := pm_it hf c73
      by_cases c74 : (pm_L h v70 33) < 0
      · have hf := pm_it hf c74
        cases hf
        cases hi
        exact K0
      · have hf := pm_ie hf c74
        obtain ⟨v75, e76, hf⟩ := pm_bd hf
        obtain ⟨y77, e78, hf⟩ := pm_lt hf
        obtain ⟨k79, hf⟩ := pm_if hf
        obtain ⟨u80, hf⟩ := pm_if hf
        obtain ⟨v81, e82, hf⟩ := pm_bd hf
        have K83 := pm_S3.trans (kpX16_calls e82) K0
        cases hf
        cases hi
        exact K83
    · have hf := pm_ie hf c73
      obtain ⟨v84, e85, hf⟩ := pm_bd hf
      obtain ⟨k86, hf⟩ := pm_if hf
      obtain ⟨u87, hf⟩ := pm_if hf
      by_cases c88 : (pm_I h v84 x2.toNatClampNeg) = 0
      · have hf := pm_it hf c88
        obtain ⟨y89, e90, hf⟩ := pm_lt hf
        cases hf
        exact pm_S3.trans (ih.2 x0 x1 y89 h hi) K0
      · have hf := pm_ie hf c88
        obtain ⟨v91, e92, hf⟩ := pm_bd hf
        obtain ⟨k93, hf⟩ := pm_if hf
        obtain ⟨u94, hf⟩ := pm_if hf
        obtain ⟨v95, e96, hf⟩ := pm_bd hf
        have K97 := pm_S3.trans (kpX16_constant e96) K0
        obtain ⟨k98, hf⟩ := pm_if hf
        obtain ⟨v99, e100, hf⟩ := pm_bd hf
        obtain ⟨y101, e102, hf⟩ := pm_lt hf
        obtain ⟨k103, hf⟩ := pm_if hf
        obtain ⟨u104, hf⟩ := pm_if hf
        obtain ⟨v105, e106, hf⟩ := pm_bd hf
        obtain ⟨k107, hf⟩ := pm_if hf
        obtain ⟨v108, e109, hf⟩ := pm_bd hf
        obtain ⟨k110, hf⟩ := pm_if hf
        obtain ⟨u111, hf⟩ := pm_if hf
        obtain ⟨v112, e113, hf⟩ := pm_bd hf
        have K114 := pm_S3.trans (kpX16_copiesData e113) K97
        by_cases c115 : v112.1 = 0
        · have hf := pm_it hf c115
          obtain ⟨k116, hf⟩ := pm_if hf
          obtain ⟨v117, e118, hf⟩ := pm_bd hf
          have K119 := pm_S3.trans (kpX16_failsAtOnce e118) K114
          cases hf
          cases hi
          exact K119
        · have hf := pm_ie hf c115
          obtain ⟨k120, hf⟩ := pm_if hf
          obtain ⟨v121, e122, hf⟩ := pm_bd hf
          obtain ⟨k123, hf⟩ := pm_if hf
          obtain ⟨u124, hf⟩ := pm_if hf
          obtain ⟨y125, e126, hf⟩ := pm_lt hf
          cases hf
          exact pm_S3.trans (ih.2 x0 x1 y125 (pm_setI v112.2 v121 (((64 * x1) + x2).toNatClampNeg) (vp_nar .boolean 0)) hi) K114
set_option maxHeartbeats 4000000 in
set_option maxRecDepth 100000 in
theorem kpX16_startsUp {h : pm_H} {a0 : Nat} {p1 : Int32} {r : pm_H} (hf : fX16_startsUp h a0 p1 = some r) : pm_S3 r h := by
  unfold fX16_startsUp at hf
  have K0 := pm_S3.rf h
  obtain ⟨n, hn⟩ := pm_lim_iter hf
  exact pm_S3.trans ((klX16_startsUp n).1 a0 p1 0 h hn) K0
set_option maxHeartbeats 4000000 in
set_option maxRecDepth 100000 in
theorem klX16_call {r : (Int32 × pm_H)} : ∀ n : Nat, (∀ (x0 : Nat) (x3 : Int32) (x4 : Int32) (h : pm_H), pm_iter sX16_call n (x0, x3, x4, h) = some r → pm_S3 r.2 h) := by
  intro n
  induction n with
  | zero => exact fun _ _ _ _ hf => (by cases hf)
  | succ n ih =>
    refine fun x0 x3 x4 h hf => ?_
    obtain ⟨y, hf, hi⟩ := pm_iter_s hf
    have hf : tX16_call_49 x0 x3 x4 h = some y := hf
    unfold tX16_call_49 at hf
    have K0 := pm_S3.rf h
    obtain ⟨k21, hf⟩ := pm_if hf
    by_cases c22 : (pm_I h x0 81) ≤ x4
    · have hf := pm_it hf c22
      obtain ⟨v23, e24, hf⟩ := pm_bd hf
      have K25 := pm_S3.trans (kpX16_calls e24) K0
      cases hf
      cases hi
      exact K25
    · have hf := pm_ie hf c22
      obtain ⟨v26, e27, hf⟩ := pm_bd hf
      obtain ⟨v28, e29, hf⟩ := pm_bd hf
      obtain ⟨k30, hf⟩ := pm_if hf
      obtain ⟨v31, e32, hf⟩ := pm_bd hf
      obtain ⟨v33, e34, hf⟩ := pm_bd hf
      obtain ⟨k35, hf⟩ := pm_if hf
      obtain ⟨u36, hf⟩ := pm_if hf
      obtain ⟨y37, e38, hf⟩ := pm_lt hf
      obtain ⟨k39, hf⟩ := pm_if hf
      obtain ⟨u40, hf⟩ := pm_if hf
      obtain ⟨v41, e42, hf⟩ := pm_bd hf
      obtain ⟨k43, hf⟩ := pm_if hf
      obtain ⟨u44, hf⟩ := pm_if hf
      obtain ⟨v45, e46, hf⟩ := pm_lt hf
      obtain ⟨k47, hf⟩ := pm_if hf
      obtain ⟨u48, hf⟩ := pm_if hf
      obtain ⟨y49, e50, hf⟩ := pm_lt hf
      cases hf
      exact pm_S3.trans (ih x0 x3 y49 (pm_setL h v26 x4.toNatClampNeg v45) hi) K0
set_option maxHeartbeats 4000000 in
set_option maxRecDepth 100000 in
theorem kpX16_call {h : pm_H} {a0 : Nat} {p1 : Int32} {p2 : Int32} {r : (Int32 × pm_H)} (hf : fX16_call h a0 p1 p2 = some r) : pm_S3 r.2 h := by
  unfold fX16_call at hf
  have K0 := pm_S3.rf h
  obtain ⟨k1, hf⟩ := pm_if hf
  obtain ⟨v2, e3, hf⟩ := pm_bd hf
  by_cases c4 : v2 = 0
  · have hf := pm_it hf c4
    obtain ⟨v5, e6, hf⟩ := pm_bd hf
    by_cases c7 : v5 < 0
    · have hf := pm_it hf c7
      cases hf
      exact K0
    · have hf := pm_ie hf c7
      obtain ⟨v8, e9, hf⟩ := pm_bd hf
      by_cases c10 : v8 = (pm_I h a0 81)
      · have hf := pm_it hf c10
        obtain ⟨v11, e12, hf⟩ := pm_bd hf
        by_cases c13 : v11 = 0
        · have hf := pm_it hf c13
          cases hf
          exact K0
        · have hf := pm_ie hf c13
          obtain ⟨n, hn⟩ := pm_lim_iter hf
          exact pm_S3.trans ((klX16_call n) a0 v5 0 h hn) K0
      · have hf := pm_ie hf c10
        cases hf
        exact K0
  · have hf := pm_ie hf c4
    by_cases c14 : ((-1) : Int32) < (0 : Int32)
    · have hf := pm_it hf c14
      cases hf
      exact K0
    · have hf := pm_ie hf c14
      obtain ⟨v15, e16, hf⟩ := pm_bd hf
      by_cases c17 : v15 = (pm_I h a0 81)
      · have hf := pm_it hf c17
        obtain ⟨v18, e19, hf⟩ := pm_bd hf
        by_cases c20 : v18 = 0
        · have hf := pm_it hf c20
          cases hf
          exact K0
        · have hf := pm_ie hf c20
          obtain ⟨n, hn⟩ := pm_lim_iter hf
          exact pm_S3.trans ((klX16_call n) a0 (-1) 0 h hn) K0
      · have hf := pm_ie hf c17
        cases hf
        exact K0
set_option maxHeartbeats 4000000 in
set_option maxRecDepth 100000 in
theorem kpX16_operator_b15 {h : pm_H} {x0 : Nat} {x1 : Int32} {s0 : Int64} {r : pm_H} (hf : fX16_operator_b15 h x0 x1 s0 = some r) : pm_S3 r h := by
  unfold fX16_operator_b15 at hf
  have K0 := pm_S3.rf h
  obtain ⟨k8, hf⟩ := pm_if hf
  obtain ⟨v9, e10, hf⟩ := pm_bd hf
  have K11 := pm_S3.trans (kpX16_pop e10) K0
  obtain ⟨k12, hf⟩ := pm_if hf
  obtain ⟨v13, e14, hf⟩ := pm_bd hf
  have K15 := pm_S3.trans (kpX16_reckons e14) K11
  obtain ⟨k16, hf⟩ := pm_if hf
  by_cases c17 : (pm_I v13.2 x0 33) ≤ 0
  · have hf := pm_it hf c17
    obtain ⟨v18, e19, hf⟩ := pm_bd hf
    have K20 := pm_S3.trans (kpX16_push e19) K15
    cases hf
    exact K20
  · have hf := pm_ie hf c17
    obtain ⟨v21, e22, hf⟩ := pm_bd hf
    have K23 := pm_S3.trans (kpX16_endsBy e22) K15
    cases hf
    exact K23
set_option maxHeartbeats 4000000 in
set_option maxRecDepth 100000 in
theorem kpX16_operator {h : pm_H} {a0 : Nat} {p1 : Int32} {r : pm_H} (hf : fX16_operator h a0 p1 = some r) : pm_S3 r h := by
  unfold fX16_operator at hf
  have K0 := pm_S3.rf h
  obtain ⟨v1, e2, hf⟩ := pm_lt hf
  by_cases c3 : v1 = 0
  · have hf := pm_it hf c3
    exact pm_S3.trans (kpX16_operator_b15 hf) K0
  · have hf := pm_ie hf c3
    obtain ⟨k4, hf⟩ := pm_if hf
    obtain ⟨v5, e6, hf⟩ := pm_bd hf
    have K7 := pm_S3.trans (kpX16_pop e6) K0
    exact pm_S3.trans (kpX16_operator_b15 hf) K7
set_option maxHeartbeats 4000000 in
set_option maxRecDepth 100000 in
theorem kpX16_furtherStep_b65 {h : pm_H} {x0 : Nat} {x1 : Int32} {x2 : Int32} {s0 : Int32} {r : pm_H} (hf : fX16_furtherStep_b65 h x0 x1 x2 s0 = some r) : pm_S3 r h := by
  unfold fX16_furtherStep_b65 at hf
  have K0 := pm_S3.rf h
  by_cases c22 : x1 = 9
  · have hf := pm_it hf c22
    obtain ⟨k23, hf⟩ := pm_if hf
    obtain ⟨v24, e25, hf⟩ := pm_bd hf
    obtain ⟨k26, hf⟩ := pm_if hf
    obtain ⟨u27, hf⟩ := pm_if hf
    cases hf
    exact K0
  · have hf := pm_ie hf c22
    by_cases c28 : x1 = 13
    · have hf := pm_it hf c28
      obtain ⟨k29, hf⟩ := pm_if hf
      obtain ⟨v30, e31, hf⟩ := pm_bd hf
      have K32 := pm_S3.trans (kpX16_dropped e31) K0
      cases hf
      exact K32
    · have hf := pm_ie hf c28
      by_cases c33 : 12 ≤ x1
      · have hf := pm_it hf c33
        obtain ⟨k34, hf⟩ := pm_if hf
        obtain ⟨v35, e36, hf⟩ := pm_bd hf
        have K37 := pm_S3.trans (kpX16_tablesStep e36) K0
        cases hf
        exact K37
      · have hf := pm_ie hf c33
        obtain ⟨k38, hf⟩ := pm_if hf
        obtain ⟨v39, e40, hf⟩ := pm_bd hf
        have K41 := pm_S3.trans (kpX16_stretches e40) K0
        cases hf
        exact K41
set_option maxHeartbeats 4000000 in
set_option maxRecDepth 100000 in
theorem kpX16_furtherStep_b56 {h : pm_H} {x0 : Nat} {x1 : Int32} {x2 : Int32} {r : pm_H} (hf : fX16_furtherStep_b56 h x0 x1 x2 = some r) : pm_S3 r h := by
  unfold fX16_furtherStep_b56 at hf
  have K0 := pm_S3.rf h
  obtain ⟨k18, hf⟩ := pm_if hf
  obtain ⟨v19, e20, hf⟩ := pm_bd hf
  have K21 := pm_S3.trans (kpX16_word e20) K0
  exact pm_S3.trans (kpX16_furtherStep_b65 hf) K21
set_option maxHeartbeats 4000000 in
set_option maxRecDepth 100000 in
theorem kpX16_furtherStep_b43 {h : pm_H} {x0 : Nat} {x1 : Int32} {s0 : Int32} {r : pm_H} (hf : fX16_furtherStep_b43 h x0 x1 s0 = some r) : pm_S3 r h := by
  unfold fX16_furtherStep_b43 at hf
  have K0 := pm_S3.rf h
  by_cases c16 : x1 = 12
  · have hf := pm_it hf c16
    exact pm_S3.trans (kpX16_furtherStep_b56 hf) K0
  · have hf := pm_ie hf c16
    by_cases c17 : x1 = 14
    · have hf := pm_it hf c17
      exact pm_S3.trans (kpX16_furtherStep_b56 hf) K0
    · have hf := pm_ie hf c17
      exact pm_S3.trans (kpX16_furtherStep_b65 hf) K0
set_option maxHeartbeats 4000000 in
set_option maxRecDepth 100000 in
theorem kpX16_furtherStep_b34 {h : pm_H} {x0 : Nat} {x1 : Int32} {r : pm_H} (hf : fX16_furtherStep_b34 h x0 x1 = some r) : pm_S3 r h := by
  unfold fX16_furtherStep_b34 at hf
  have K0 := pm_S3.rf h
  exact pm_S3.trans (kpX16_furtherStep_b43 hf) K0
set_option maxHeartbeats 4000000 in
set_option maxRecDepth 100000 in
theorem kpX16_furtherStep {h : pm_H} {a0 : Nat} {r : pm_H} (hf : fX16_furtherStep h a0 = some r) : pm_S3 r h := by
  unfold fX16_furtherStep at hf
  have K0 := pm_S3.rf h
  obtain ⟨k1, hf⟩ := pm_if hf
  obtain ⟨v2, e3, hf⟩ := pm_bd hf
  have K4 := pm_S3.trans (kpX16_word e3) K0
  by_cases c5 : 8 ≤ v2.1.toInt32
  · have hf := pm_it hf c5
    by_cases c6 : v2.1.toInt32 = 10
    · have hf := pm_it hf c6
      exact pm_S3.trans (kpX16_furtherStep_b34 hf) K4
    · have hf := pm_ie hf c6
      by_cases c7 : v2.1.toInt32 = 11
      · have hf := pm_it hf c7
        exact pm_S3.trans (kpX16_furtherStep_b34 hf) K4
      · have hf := pm_ie hf c7
        obtain ⟨k8, hf⟩ := pm_if hf
        obtain ⟨v9, e10, hf⟩ := pm_bd hf
        have K11 := pm_S3.trans (kpX16_word e10) K4
        exact pm_S3.trans (kpX16_furtherStep_b43 hf) K11
  · have hf := pm_ie hf c5
    obtain ⟨k12, hf⟩ := pm_if hf
    obtain ⟨v13, e14, hf⟩ := pm_bd hf
    have K15 := pm_S3.trans (kpX16_operator e14) K4
    cases hf
    exact K15
set_option maxHeartbeats 4000000 in
set_option maxRecDepth 100000 in
theorem kpX16_step_b61 {h : pm_H} {x0 : Nat} {x1 : Int32} {x2 : Int32} {r : pm_H} (hf : fX16_step_b61 h x0 x1 x2 = some r) : pm_S3 r h := by
  unfold fX16_step_b61 at hf
  have K0 := pm_S3.rf h
  by_cases c26 : 32 ≤ x2
  · have hf := pm_it hf c26
    by_cases c27 : 40 ≤ x2
    · have hf := pm_it hf c27
      by_cases c28 : 63 ≤ x2
      · have hf := pm_it hf c28
        by_cases c29 : x2 = 252
        · have hf := pm_it hf c29
          obtain ⟨k30, hf⟩ := pm_if hf
          obtain ⟨v31, e32, hf⟩ := pm_bd hf
          have K33 := pm_S3.trans (kpX16_furtherStep e32) K0
          obtain ⟨k34, hf⟩ := pm_if hf
          obtain ⟨v35, e36, hf⟩ := pm_bd hf
          have K37 := pm_S3.trans (kpX16_goesOn e36) K33
          cases hf
          exact K37
        · have hf := pm_ie hf c29
          obtain ⟨k38, hf⟩ := pm_if hf
          obtain ⟨v39, e40, hf⟩ := pm_bd hf
          have K41 := pm_S3.trans (kpX16_others e40) K0
          obtain ⟨k42, hf⟩ := pm_if hf
          obtain ⟨v43, e44, hf⟩ := pm_bd hf
          have K45 := pm_S3.trans (kpX16_goesOn e44) K41
          cases hf
          exact K45
      · have hf := pm_ie hf c28
        obtain ⟨k46, hf⟩ := pm_if hf
        obtain ⟨v47, e48, hf⟩ := pm_bd hf
        have K49 := pm_S3.trans (kpX16_accesses1 e48) K0
        obtain ⟨k50, hf⟩ := pm_if hf
        obtain ⟨v51, e52, hf⟩ := pm_bd hf
        have K53 := pm_S3.trans (kpX16_goesOn e52) K49
        cases hf
        exact K53
    · have hf := pm_ie hf c27
      obtain ⟨k54, hf⟩ := pm_if hf
      obtain ⟨v55, e56, hf⟩ := pm_bd hf
      have K57 := pm_S3.trans (kpX16_moves e56) K0
      obtain ⟨k58, hf⟩ := pm_if hf
      obtain ⟨v59, e60, hf⟩ := pm_bd hf
      have K61 := pm_S3.trans (kpX16_goesOn e60) K57
      cases hf
      exact K61
  · have hf := pm_ie hf c26
    obtain ⟨k62, hf⟩ := pm_if hf
    obtain ⟨v63, e64, hf⟩ := pm_bd hf
    have K65 := pm_S3.trans (kpX16_turns e64) K0
    obtain ⟨k66, hf⟩ := pm_if hf
    obtain ⟨v67, e68, hf⟩ := pm_bd hf
    have K69 := pm_S3.trans (kpX16_goesOn e68) K65
    cases hf
    exact K69
set_option maxHeartbeats 4000000 in
set_option maxRecDepth 100000 in
theorem kpX16_step {h : pm_H} {a0 : Nat} {r : pm_H} (hf : fX16_step h a0 = some r) : pm_S3 r h := by
  unfold fX16_step at hf
  have K0 := pm_S3.rf h
  obtain ⟨k1, hf⟩ := pm_if hf
  obtain ⟨y2, e3, hf⟩ := pm_lt hf
  obtain ⟨v4, e5, hf⟩ := pm_bd hf
  obtain ⟨k6, hf⟩ := pm_if hf
  obtain ⟨v7, e8, hf⟩ := pm_bd hf
  obtain ⟨y9, e10, hf⟩ := pm_lt hf
  obtain ⟨v11, e12, hf⟩ := pm_bd hf
  have K13 := pm_S3.trans (kpX16_behind e12) K0
  obtain ⟨k14, hf⟩ := pm_if hf
  obtain ⟨y15, e16, hf⟩ := pm_lt hf
  by_cases c17 : v7 < 69
  · have hf := pm_it hf c17
    exact pm_S3.trans (kpX16_step_b61 hf) K13
  · have hf := pm_ie hf c17
    by_cases c18 : 196 < v7
    · have hf := pm_it hf c18
      exact pm_S3.trans (kpX16_step_b61 hf) K13
    · have hf := pm_ie hf c18
      obtain ⟨v19, e20, hf⟩ := pm_bd hf
      have K21 := pm_S3.trans (kpX16_operator e20) K13
      obtain ⟨k22, hf⟩ := pm_if hf
      obtain ⟨v23, e24, hf⟩ := pm_bd hf
      have K25 := pm_S3.trans (kpX16_goesOn e24) K21
      cases hf
      exact K25
set_option maxHeartbeats 4000000 in
set_option maxRecDepth 100000 in
theorem klX16_run {r : (Int32 × pm_H)} : ∀ n : Nat, (∀ (x0 : Nat) (x1 : Int32) (x2 : Int32) (h : pm_H), pm_iter sX16_run n (x0, x1, x2, h) = some r → pm_S3 r.2 h) := by
  intro n
  induction n with
  | zero => exact fun _ _ _ _ hf => (by cases hf)
  | succ n ih =>
    refine fun x0 x1 x2 h hf => ?_
    obtain ⟨y, hf, hi⟩ := pm_iter_s hf
    have hf : tX16_run_15 x0 x1 x2 h = some y := hf
    unfold tX16_run_15 at hf
    have K0 := pm_S3.rf h
    obtain ⟨k3, hf⟩ := pm_if hf
    by_cases c4 : (pm_I h x0 76) = 1
    · have hf := pm_it hf c4
      by_cases c5 : x1 ≤ x2
      · have hf := pm_it hf c5
        cases hf
        cases hi
        exact K0
      · have hf := pm_ie hf c5
        obtain ⟨v6, e7, hf⟩ := pm_bd hf
        have K8 := pm_S3.trans (kpX16_step e7) K0
        obtain ⟨y9, e10, hf⟩ := pm_lt hf
        cases hf
        exact pm_S3.trans (ih x0 x1 y9 v6 hi) K8
    · have hf := pm_ie hf c4
      cases hf
      cases hi
      exact K0
set_option maxHeartbeats 4000000 in
set_option maxRecDepth 100000 in
theorem kpX16_run {h : pm_H} {a0 : Nat} {p1 : Int32} {r : (Int32 × pm_H)} (hf : fX16_run h a0 p1 = some r) : pm_S3 r.2 h := by
  unfold fX16_run at hf
  have K0 := pm_S3.rf h
  by_cases c1 : p1 < 0
  · have hf := pm_it hf c1
    cases hf
    exact K0
  · have hf := pm_ie hf c1
    by_cases c2 : p1 ≤ 100000
    · have hf := pm_it hf c2
      obtain ⟨n, hn⟩ := pm_lim_iter hf
      exact pm_S3.trans ((klX16_run n) a0 p1 0 h hn) K0
    · have hf := pm_ie hf c2
      cases hf
      exact K0
set_option maxHeartbeats 4000000 in
set_option maxRecDepth 100000 in
theorem kpX16_stops {h : pm_H} {a0 : Nat} {p1 : Int32} {p2 : Int32} {r : ((Nat × pm_H) ⊕ pm_H)} (hf : fX16_stops h a0 p1 p2 = some r) : pt_SV r h := by
  unfold fX16_stops at hf
  have K0 := pm_S3.rf h
  obtain ⟨k1, hf⟩ := pm_if hf
  obtain ⟨v2, e3, hf⟩ := pm_bd hf
  cases hf
  exact K0
set_option maxHeartbeats 4000000 in
set_option maxRecDepth 100000 in
theorem kpX16_take {h : pm_H} {a0 : Nat} {p1 : Int32} {r : ((Nat × pm_H) ⊕ (Int32 × pm_H))} (hf : fX16_take h a0 p1 = some r) : pt_SI r h := by
  unfold fX16_take at hf
  have K0 := pm_S3.rf h
  obtain ⟨k1, hf⟩ := pm_if hf
  obtain ⟨y2, e3, hf⟩ := pm_lt hf
  obtain ⟨v4, e5, hf⟩ := pm_bd hf
  obtain ⟨k6, hf⟩ := pm_if hf
  obtain ⟨u7, hf⟩ := pm_if hf
  by_cases c8 : (pm_I h a0 23) = (pm_I h v4 y2.toNatClampNeg)
  · have hf := pm_it hf c8
    obtain ⟨v9, e10, hf⟩ := pm_bd hf
    obtain ⟨k11, hf⟩ := pm_if hf
    obtain ⟨u12, hf⟩ := pm_if hf
    by_cases c13 : (pm_I h v9 y2.toNatClampNeg) = 0
    · have hf := pm_it hf c13
      obtain ⟨v14, e15, hf⟩ := pm_bd hf
      rcases v14 with z17 | w16
      · have hf := pt_kl hf
        cases hf
        exact pm_S3.trans (show pm_S3 z17.2 _ from kpX16_stops e15) K0
      have K18 := pm_S3.trans (show pm_S3 w16 _ from kpX16_stops e15) K0
      have hf := pt_kr hf
      cases hf
      exact K18
    · have hf := pm_ie hf c13
      cases hf
      exact K0
  · have hf := pm_ie hf c8
    obtain ⟨y19, e20, hf⟩ := pm_lt hf
    obtain ⟨v21, e22, hf⟩ := pm_bd hf
    obtain ⟨y23, e24, hf⟩ := pm_lt hf
    obtain ⟨k25, hf⟩ := pm_if hf
    obtain ⟨u26, hf⟩ := pm_if hf
    obtain ⟨y27, e28, hf⟩ := pm_lt hf
    by_cases c29 : p1 = 0
    · have hf := pm_it hf c29
      cases hf
      exact K0
    · have hf := pm_ie hf c29
      by_cases c30 : y27 = (-1)
      · have hf := pm_it hf c30
        cases hf
        exact K0
      · have hf := pm_ie hf c30
        by_cases c31 : y27 = p1
        · have hf := pm_it hf c31
          cases hf
          exact K0
        · have hf := pm_ie hf c31
          obtain ⟨v32, e33, hf⟩ := pm_bd hf
          rcases v32 with z35 | w34
          · have hf := pt_kl hf
            cases hf
            exact pm_S3.trans (show pm_S3 z35.2 _ from kpX16_stops e33) K0
          have K36 := pm_S3.trans (show pm_S3 w34 _ from kpX16_stops e33) K0
          have hf := pt_kr hf
          cases hf
          exact K36
set_option maxHeartbeats 4000000 in
set_option maxRecDepth 100000 in
theorem klX16_takeParameters {r : ((Nat × pm_H) ⊕ pm_H)} : ∀ n : Nat, (∀ (x0 : Nat) (x1 : Int64) (x3 : Int32) (h : pm_H), pm_iter sX16_takeParameters n (x0, x1, x3, h) = some r → pt_SV r h) := by
  intro n
  induction n with
  | zero => exact fun _ _ _ _ hf => (by cases hf)
  | succ n ih =>
    refine fun x0 x1 x3 h hf => ?_
    obtain ⟨y, hf, hi⟩ := pm_iter_s hf
    have hf : tX16_takeParameters_8 x0 x1 x3 h = some y := hf
    unfold tX16_takeParameters_8 at hf
    have K0 := pm_S3.rf h
    by_cases c6 : x3 < 0
    · have hf := pm_it hf c6
      cases hf
      cases hi
      exact K0
    · have hf := pm_ie hf c6
      obtain ⟨k7, hf⟩ := pm_if hf
      obtain ⟨v8, e9, hf⟩ := pm_bd hf
      obtain ⟨v10, e11, hf⟩ := pm_bd hf
      rcases v10 with z13 | w12
      · have hf := pt_sl hf
        cases hf
        cases hi
        exact pm_S3.trans (show pm_S3 z13.2 _ from kpX16_take e11) K0
      have K14 := pm_S3.trans (show pm_S3 w12.2 _ from kpX16_take e11) K0
      have hf := pt_sr hf
      obtain ⟨y15, e16, hf⟩ := pm_lt hf
      cases hf
      exact pt_SV.trans (ih x0 x1 y15 w12.2 hi) K14
set_option maxHeartbeats 4000000 in
set_option maxRecDepth 100000 in
theorem kpX16_takeParameters {h : pm_H} {a0 : Nat} {p1 : Int64} {r : ((Nat × pm_H) ⊕ pm_H)} (hf : fX16_takeParameters h a0 p1 = some r) : pt_SV r h := by
  unfold fX16_takeParameters at hf
  have K0 := pm_S3.rf h
  obtain ⟨k1, hf⟩ := pm_if hf
  obtain ⟨v2, e3, hf⟩ := pm_bd hf
  obtain ⟨y4, e5, hf⟩ := pm_lt hf
  obtain ⟨n, hn⟩ := pm_lim_iter hf
  exact pt_SV.trans ((klX16_takeParameters n) a0 p1 y4 h hn) K0
set_option maxHeartbeats 4000000 in
set_option maxRecDepth 100000 in
theorem klX16_takeResults {r : ((Nat × pm_H) ⊕ pm_H)} : ∀ n : Nat, (∀ (x0 : Nat) (x1 : Int64) (x3 : Int32) (h : pm_H), pm_iter sX16_takeResults n (x0, x1, x3, h) = some r → pt_SV r h) := by
  intro n
  induction n with
  | zero => exact fun _ _ _ _ hf => (by cases hf)
  | succ n ih =>
    refine fun x0 x1 x3 h hf => ?_
    obtain ⟨y, hf, hi⟩ := pm_iter_s hf
    have hf : tX16_takeResults_8 x0 x1 x3 h = some y := hf
    unfold tX16_takeResults_8 at hf
    have K0 := pm_S3.rf h
    by_cases c6 : x3 < 0
    · have hf := pm_it hf c6
      cases hf
      cases hi
      exact K0
    · have hf := pm_ie hf c6
      obtain ⟨k7, hf⟩ := pm_if hf
      obtain ⟨v8, e9, hf⟩ := pm_bd hf
      obtain ⟨v10, e11, hf⟩ := pm_bd hf
      rcases v10 with z13 | w12
      · have hf := pt_sl hf
        cases hf
        cases hi
        exact pm_S3.trans (show pm_S3 z13.2 _ from kpX16_take e11) K0
      have K14 := pm_S3.trans (show pm_S3 w12.2 _ from kpX16_take e11) K0
      have hf := pt_sr hf
      obtain ⟨y15, e16, hf⟩ := pm_lt hf
      cases hf
      exact pt_SV.trans (ih x0 x1 y15 w12.2 hi) K14
set_option maxHeartbeats 4000000 in
set_option maxRecDepth 100000 in
theorem kpX16_takeResults {h : pm_H} {a0 : Nat} {p1 : Int64} {r : ((Nat × pm_H) ⊕ pm_H)} (hf : fX16_takeResults h a0 p1 = some r) : pt_SV r h := by
  unfold fX16_takeResults at hf
  have K0 := pm_S3.rf h
  obtain ⟨k1, hf⟩ := pm_if hf
  obtain ⟨v2, e3, hf⟩ := pm_bd hf
  obtain ⟨y4, e5, hf⟩ := pm_lt hf
  obtain ⟨n, hn⟩ := pm_lim_iter hf
  exact pt_SV.trans ((klX16_takeResults n) a0 p1 y4 h hn) K0
set_option maxHeartbeats 4000000 in
set_option maxRecDepth 100000 in
theorem klX16_takeWanted {r : ((Nat × pm_H) ⊕ pm_H)} : ∀ n : Nat, (∀ (x0 : Nat) (x1 : Int32) (x2 : Int32) (h : pm_H), pm_iter sX16_takeWanted n (x0, x1, x2, h) = some r → pt_SV r h) := by
  intro n
  induction n with
  | zero => exact fun _ _ _ _ hf => (by cases hf)
  | succ n ih =>
    refine fun x0 x1 x2 h hf => ?_
    obtain ⟨y, hf, hi⟩ := pm_iter_s hf
    have hf : tX16_takeWanted_8 x0 x1 x2 h = some y := hf
    unfold tX16_takeWanted_8 at hf
    have K0 := pm_S3.rf h
    by_cases c6 : x2 < 0
    · have hf := pm_it hf c6
      cases hf
      cases hi
      exact K0
    · have hf := pm_ie hf c6
      obtain ⟨k7, hf⟩ := pm_if hf
      obtain ⟨v8, e9, hf⟩ := pm_bd hf
      obtain ⟨v10, e11, hf⟩ := pm_bd hf
      rcases v10 with z13 | w12
      · have hf := pt_sl hf
        cases hf
        cases hi
        exact pm_S3.trans (show pm_S3 z13.2 _ from kpX16_take e11) K0
      have K14 := pm_S3.trans (show pm_S3 w12.2 _ from kpX16_take e11) K0
      have hf := pt_sr hf
      obtain ⟨y15, e16, hf⟩ := pm_lt hf
      cases hf
      exact pt_SV.trans (ih x0 x1 y15 w12.2 hi) K14
set_option maxHeartbeats 4000000 in
set_option maxRecDepth 100000 in
theorem kpX16_takeWanted {h : pm_H} {a0 : Nat} {p1 : Int32} {r : ((Nat × pm_H) ⊕ pm_H)} (hf : fX16_takeWanted h a0 p1 = some r) : pt_SV r h := by
  unfold fX16_takeWanted at hf
  have K0 := pm_S3.rf h
  obtain ⟨k1, hf⟩ := pm_if hf
  obtain ⟨v2, e3, hf⟩ := pm_bd hf
  obtain ⟨y4, e5, hf⟩ := pm_lt hf
  obtain ⟨n, hn⟩ := pm_lim_iter hf
  exact pt_SV.trans ((klX16_takeWanted n) a0 p1 y4 h hn) K0
set_option maxHeartbeats 4000000 in
set_option maxRecDepth 100000 in
theorem klX16_takes {r : ((Nat × pm_H) ⊕ pm_H)} : ∀ n : Nat, (∀ (x0 : Nat) (x1 : Int32) (x2 : Int32) (x3 : Int32) (h : pm_H), pm_iter sX16_takes n (x0, x1, x2, x3, h) = some r → pt_SV r h) := by
  intro n
  induction n with
  | zero => exact fun _ _ _ _ _ hf => (by cases hf)
  | succ n ih =>
    refine fun x0 x1 x2 x3 h hf => ?_
    obtain ⟨y, hf, hi⟩ := pm_iter_s hf
    have hf : tX16_takes_2 x0 x1 x2 x3 h = some y := hf
    unfold tX16_takes_2 at hf
    have K0 := pm_S3.rf h
    by_cases c1 : x2 ≤ x3
    · have hf := pm_it hf c1
      cases hf
      cases hi
      exact K0
    · have hf := pm_ie hf c1
      obtain ⟨k2, hf⟩ := pm_if hf
      obtain ⟨v3, e4, hf⟩ := pm_bd hf
      rcases v3 with z6 | w5
      · have hf := pt_sl hf
        cases hf
        cases hi
        exact pm_S3.trans (show pm_S3 z6.2 _ from kpX16_take e4) K0
      have K7 := pm_S3.trans (show pm_S3 w5.2 _ from kpX16_take e4) K0
      have hf := pt_sr hf
      obtain ⟨y8, e9, hf⟩ := pm_lt hf
      cases hf
      exact pt_SV.trans (ih x0 x1 x2 y8 w5.2 hi) K7
set_option maxHeartbeats 4000000 in
set_option maxRecDepth 100000 in
theorem kpX16_takes {h : pm_H} {a0 : Nat} {p1 : Int32} {p2 : Int32} {r : ((Nat × pm_H) ⊕ pm_H)} (hf : fX16_takes h a0 p1 p2 = some r) : pt_SV r h := by
  unfold fX16_takes at hf
  have K0 := pm_S3.rf h
  obtain ⟨n, hn⟩ := pm_lim_iter hf
  exact pt_SV.trans ((klX16_takes n) a0 p1 p2 0 h hn) K0
set_option maxHeartbeats 4000000 in
set_option maxRecDepth 100000 in
theorem kpX16_begins_b20 {h : pm_H} {x0 : Nat} {x1 : Int32} {x2 : Int64} {r : ((Nat × pm_H) ⊕ pm_H)} (hf : fX16_begins_b20 h x0 x1 x2 = some r) : pt_SV r h := by
  unfold fX16_begins_b20 at hf
  have K0 := pm_S3.rf h
  obtain ⟨k8, hf⟩ := pm_if hf
  obtain ⟨v9, e10, hf⟩ := pm_bd hf
  obtain ⟨k11, hf⟩ := pm_if hf
  obtain ⟨u12, hf⟩ := pm_if hf
  obtain ⟨v13, e14, hf⟩ := pm_bd hf
  obtain ⟨k15, hf⟩ := pm_if hf
  obtain ⟨u16, hf⟩ := pm_if hf
  obtain ⟨v17, e18, hf⟩ := pm_bd hf
  obtain ⟨y19, e20, hf⟩ := pm_lt hf
  obtain ⟨k21, hf⟩ := pm_if hf
  obtain ⟨u22, hf⟩ := pm_if hf
  obtain ⟨v23, e24, hf⟩ := pm_bd hf
  obtain ⟨k25, hf⟩ := pm_if hf
  obtain ⟨u26, hf⟩ := pm_if hf
  obtain ⟨y27, e28, hf⟩ := pm_lt hf
  cases hf
  exact K0
set_option maxHeartbeats 4000000 in
set_option maxRecDepth 100000 in
theorem kpX16_begins {h : pm_H} {a0 : Nat} {p1 : Int32} {p2 : Int64} {r : ((Nat × pm_H) ⊕ pm_H)} (hf : fX16_begins h a0 p1 p2 = some r) : pt_SV r h := by
  unfold fX16_begins at hf
  have K0 := pm_S3.rf h
  obtain ⟨k1, hf⟩ := pm_if hf
  by_cases c2 : (pm_I h a0 24) = 200
  · have hf := pm_it hf c2
    obtain ⟨v3, e4, hf⟩ := pm_bd hf
    rcases v3 with z6 | w5
    · have hf := pt_kl hf
      cases hf
      exact pm_S3.trans (show pm_S3 z6.2 _ from kpX16_stops e4) K0
    have K7 := pm_S3.trans (show pm_S3 w5 _ from kpX16_stops e4) K0
    have hf := pt_kr hf
    exact pt_SV.trans (kpX16_begins_b20 hf) K7
  · have hf := pm_ie hf c2
    exact pt_SV.trans (kpX16_begins_b20 hf) K0
set_option maxHeartbeats 4000000 in
set_option maxRecDepth 100000 in
theorem klX16_character {r : ((Nat × pm_H) ⊕ (Int32 × pm_H))} : ∀ n : Nat, (∀ (x0 : Nat) (x1 : Int32) (x2 : Int32) (x3 : Int32) (h : pm_H), pm_iter sX16_character n (.inl (x0, x1, x2, x3, h)) = some r → pt_SI r h) ∧ (∀ (x0 : Nat) (x1 : Int32) (x2 : Int32) (x3 : Int32) (s0 : Int32) (h : pm_H), pm_iter sX16_character n (.inr (.inl (x0, x1, x2, x3, s0, h))) = some r → pt_SI r h) ∧ (∀ (x0 : Nat) (x1 : Int32) (x3 : Int32) (x4 : Int32) (h : pm_H), pm_iter sX16_character n (.inr (.inr (.inl (x0, x1, x3, x4, h)))) = some r → pt_SI r h) ∧ (∀ (x0 : Nat) (x1 : Int32) (x4 : Int32) (x5 : Int32) (x6 : Int32) (h : pm_H), pm_iter sX16_character n (.inr (.inr (.inr (.inl (x0, x1, x4, x5, x6, h))))) = some r → pt_SI r h) ∧ (∀ (x0 : Nat) (x1 : Int32) (x4 : Int32) (h : pm_H), pm_iter sX16_character n (.inr (.inr (.inr (.inr (.inl (x0, x1, x4, h)))))) = some r → pt_SI r h) ∧ (∀ (x0 : Nat) (x1 : Int32) (x4 : Int32) (x5 : Int32) (h : pm_H), pm_iter sX16_character n (.inr (.inr (.inr (.inr (.inr (.inl (x0, x1, x4, x5, h))))))) = some r → pt_SI r h) ∧ (∀ (x0 : Nat) (x1 : Int32) (x4 : Int32) (x5 : Int32) (h : pm_H), pm_iter sX16_character n (.inr (.inr (.inr (.inr (.inr (.inr (.inl (x0, x1, x4, x5, h)))))))) = some r → pt_SI r h) ∧ (∀ (x0 : Nat) (x1 : Int32) (x4 : Int32) (h : pm_H), pm_iter sX16_character n (.inr (.inr (.inr (.inr (.inr (.inr (.inr (x0, x1, x4, h)))))))) = some r → pt_SI r h) := by
  intro n
  induction n with
  | zero => exact ⟨fun _ _ _ _ _ hf => (by cases hf), fun _ _ _ _ _ _ hf => (by cases hf), fun _ _ _ _ _ hf => (by cases hf), fun _ _ _ _ _ _ hf => (by cases hf), fun _ _ _ _ hf => (by cases hf), fun _ _ _ _ _ hf => (by cases hf), fun _ _ _ _ _ hf => (by cases hf), fun _ _ _ _ hf => (by cases hf)⟩
  | succ n ih =>
    refine ⟨fun x0 x1 x2 x3 h hf => ?_, ?_⟩
    · obtain ⟨y, hf, hi⟩ := pm_iter_s hf
      have hf : tX16_character_38 x0 x1 x2 x3 h = some y := hf
      unfold tX16_character_38 at hf
      have K0 := pm_S3.rf h
      by_cases c10 : x3 < 224
      · have hf := pm_it hf c10
        by_cases c11 : x3 < 240
        · have hf := pm_it hf c11
          cases hf
          exact pt_SI.trans (ih.2.1 x0 x1 x2 x3 9 h hi) K0
        · have hf := pm_ie hf c11
          by_cases c12 : 248 ≤ x3
          · have hf := pm_it hf c12
            cases hf
            exact pt_SI.trans (ih.2.1 x0 x1 x2 x3 9 h hi) K0
          · have hf := pm_ie hf c12
            cases hf
            exact pt_SI.trans (ih.2.1 x0 x1 x2 x3 3 h hi) K0
      · have hf := pm_ie hf c10
        by_cases c13 : 240 ≤ x3
        · have hf := pm_it hf c13
          by_cases c14 : x3 < 240
          · have hf := pm_it hf c14
            cases hf
            exact pt_SI.trans (ih.2.1 x0 x1 x2 x3 9 h hi) K0
          · have hf := pm_ie hf c14
            by_cases c15 : 248 ≤ x3
            · have hf := pm_it hf c15
              cases hf
              exact pt_SI.trans (ih.2.1 x0 x1 x2 x3 9 h hi) K0
            · have hf := pm_ie hf c15
              cases hf
              exact pt_SI.trans (ih.2.1 x0 x1 x2 x3 3 h hi) K0
        · have hf := pm_ie hf c13
          cases hf
          exact pt_SI.trans (ih.2.1 x0 x1 x2 x3 2 h hi) K0
    refine ⟨fun x0 x1 x2 x3 s0 h hf => ?_, ?_⟩
    · obtain ⟨y, hf, hi⟩ := pm_iter_s hf
      have hf : tX16_character_76 x0 x1 x2 x3 s0 h = some y := hf
      unfold tX16_character_76 at hf
      have K0 := pm_S3.rf h
      by_cases c16 : (x1 + s0) < x2
      · have hf := pm_it hf c16
        cases hf
        exact pt_SI.trans (ih.2.2.1 x0 x1 x3 s0 h hi) K0
      · have hf := pm_ie hf c16
        obtain ⟨k17, hf⟩ := pm_if hf
        obtain ⟨v18, e19, hf⟩ := pm_bd hf
        rcases v18 with z21 | w20
        · have hf := pt_sl hf
          cases hf
          cases hi
          exact pm_S3.trans (show pm_S3 z21.2 _ from kpX16_stops e19) K0
        have K22 := pm_S3.trans (show pm_S3 w20 _ from kpX16_stops e19) K0
        have hf := pt_sr hf
        cases hf
        exact pt_SI.trans (ih.2.2.1 x0 x1 x3 s0 w20 hi) K22
    refine ⟨fun x0 x1 x3 x4 h hf => ?_, ?_⟩
    · obtain ⟨y, hf, hi⟩ := pm_iter_s hf
      have hf : tX16_character_93 x0 x1 x3 x4 h = some y := hf
      unfold tX16_character_93 at hf
      have K0 := pm_S3.rf h
      by_cases c23 : x4 = 0
      · have hf := pm_it hf c23
        cases hf
        exact pt_SI.trans (ih.2.2.2.1 x0 x1 x4 x3 1 h hi) K0
      · have hf := pm_ie hf c23
        by_cases c24 : x4 = 1
        · have hf := pm_it hf c24
          obtain ⟨y25, e26, hf⟩ := pm_lt hf
          cases hf
          exact pt_SI.trans (ih.2.2.2.1 x0 x1 x4 y25 1 h hi) K0
        · have hf := pm_ie hf c24
          by_cases c27 : x4 = 2
          · have hf := pm_it hf c27
            obtain ⟨y28, e29, hf⟩ := pm_lt hf
            cases hf
            exact pt_SI.trans (ih.2.2.2.1 x0 x1 x4 y28 1 h hi) K0
          · have hf := pm_ie hf c27
            obtain ⟨y30, e31, hf⟩ := pm_lt hf
            cases hf
            exact pt_SI.trans (ih.2.2.2.1 x0 x1 x4 y30 1 h hi) K0
    refine ⟨fun x0 x1 x4 x5 x6 h hf => ?_, ?_⟩
    · obtain ⟨y, hf, hi⟩ := pm_iter_s hf
      have hf : tX16_character_137 x0 x1 x4 x5 x6 h = some y := hf
      unfold tX16_character_137 at hf
      have K0 := pm_S3.rf h
      by_cases c32 : x4 < x6
      · have hf := pm_it hf c32
        by_cases c33 : x4 = 0
        · have hf := pm_it hf c33
          cases hf
          exact pt_SI.trans (ih.2.2.2.2.1 x0 x1 x4 h hi) K0
        · have hf := pm_ie hf c33
          by_cases c34 : x4 = 1
          · have hf := pm_it hf c34
            by_cases c35 : 128 ≤ x5
            · have hf := pm_it hf c35
              cases hf
              exact pt_SI.trans (ih.2.2.2.2.1 x0 x1 x4 h hi) K0
            · have hf := pm_ie hf c35
              cases hf
              exact pt_SI.trans (ih.2.2.2.2.2.1 x0 x1 x4 x5 h hi) K0
          · have hf := pm_ie hf c34
            cases hf
            exact pt_SI.trans (ih.2.2.2.2.2.1 x0 x1 x4 x5 h hi) K0
      · have hf := pm_ie hf c32
        obtain ⟨k36, hf⟩ := pm_if hf
        obtain ⟨v37, e38, hf⟩ := pm_bd hf
        obtain ⟨k39, hf⟩ := pm_if hf
        obtain ⟨v40, e41, hf⟩ := pm_bd hf
        by_cases c42 : (v40 >>> ((6 : Int32) &&& 31)) = 2
        · have hf := pm_it hf c42
          obtain ⟨y43, e44, hf⟩ := pm_lt hf
          obtain ⟨y45, e46, hf⟩ := pm_lt hf
          cases hf
          exact pt_SI.trans (ih.2.2.2.1 x0 x1 x4 y43 y45 h hi) K0
        · have hf := pm_ie hf c42
          obtain ⟨v47, e48, hf⟩ := pm_bd hf
          rcases v47 with z50 | w49
          · have hf := pt_sl hf
            cases hf
            cases hi
            exact pm_S3.trans (show pm_S3 z50.2 _ from kpX16_stops e48) K0
          have K51 := pm_S3.trans (show pm_S3 w49 _ from kpX16_stops e48) K0
          have hf := pt_sr hf
          obtain ⟨y52, e53, hf⟩ := pm_lt hf
          obtain ⟨y54, e55, hf⟩ := pm_lt hf
          cases hf
          exact pt_SI.trans (ih.2.2.2.1 x0 x1 x4 y52 y54 w49 hi) K51
    refine ⟨fun x0 x1 x4 h hf => ?_, ?_⟩
    · obtain ⟨y, hf, hi⟩ := pm_iter_s hf
      have hf : tX16_character_263 x0 x1 x4 h = some y := hf
      unfold tX16_character_263 at hf
      have K0 := pm_S3.rf h
      by_cases c56 : (1 : Int32) = (0 : Int32)
      · have hf := pm_it hf c56
        obtain ⟨k57, hf⟩ := pm_if hf
        obtain ⟨v58, e59, hf⟩ := pm_bd hf
        rcases v58 with z61 | w60
        · have hf := pt_sl hf
          cases hf
          cases hi
          exact pm_S3.trans (show pm_S3 z61.2 _ from kpX16_stops e59) K0
        have K62 := pm_S3.trans (show pm_S3 w60 _ from kpX16_stops e59) K0
        have hf := pt_sr hf
        cases hf
        cases hi
        exact K62
      · have hf := pm_ie hf c56
        cases hf
        cases hi
        exact K0
    refine ⟨fun x0 x1 x4 x5 h hf => ?_, ?_⟩
    · obtain ⟨y, hf, hi⟩ := pm_iter_s hf
      have hf : tX16_character_211 x0 x1 x4 x5 h = some y := hf
      unfold tX16_character_211 at hf
      have K0 := pm_S3.rf h
      by_cases c63 : x4 = 2
      · have hf := pm_it hf c63
        by_cases c64 : x5 < 2048
        · have hf := pm_it hf c64
          cases hf
          exact pt_SI.trans (ih.2.2.2.2.2.2.1 x0 x1 x4 x5 h hi) K0
        · have hf := pm_ie hf c64
          by_cases c65 : x5 < 55296
          · have hf := pm_it hf c65
            cases hf
            exact pt_SI.trans (ih.2.2.2.2.1 x0 x1 x4 h hi) K0
          · have hf := pm_ie hf c65
            by_cases c66 : 57343 < x5
            · have hf := pm_it hf c66
              cases hf
              exact pt_SI.trans (ih.2.2.2.2.1 x0 x1 x4 h hi) K0
            · have hf := pm_ie hf c66
              cases hf
              exact pt_SI.trans (ih.2.2.2.2.2.2.1 x0 x1 x4 x5 h hi) K0
      · have hf := pm_ie hf c63
        cases hf
        exact pt_SI.trans (ih.2.2.2.2.2.2.1 x0 x1 x4 x5 h hi) K0
    refine ⟨fun x0 x1 x4 x5 h hf => ?_, ?_⟩
    · obtain ⟨y, hf, hi⟩ := pm_iter_s hf
      have hf : tX16_character_241 x0 x1 x4 x5 h = some y := hf
      unfold tX16_character_241 at hf
      have K0 := pm_S3.rf h
      by_cases c67 : x4 = 3
      · have hf := pm_it hf c67
        by_cases c68 : x5 < 65536
        · have hf := pm_it hf c68
          cases hf
          exact pt_SI.trans (ih.2.2.2.2.2.2.2 x0 x1 x4 h hi) K0
        · have hf := pm_ie hf c68
          by_cases c69 : 1114111 < x5
          · have hf := pm_it hf c69
            cases hf
            exact pt_SI.trans (ih.2.2.2.2.2.2.2 x0 x1 x4 h hi) K0
          · have hf := pm_ie hf c69
            cases hf
            exact pt_SI.trans (ih.2.2.2.2.1 x0 x1 x4 h hi) K0
      · have hf := pm_ie hf c67
        cases hf
        exact pt_SI.trans (ih.2.2.2.2.2.2.2 x0 x1 x4 h hi) K0
    refine fun x0 x1 x4 h hf => ?_
    obtain ⟨y, hf, hi⟩ := pm_iter_s hf
    have hf : tX16_character_267 x0 x1 x4 h = some y := hf
    unfold tX16_character_267 at hf
    have K0 := pm_S3.rf h
    by_cases c70 : (0 : Int32) = (0 : Int32)
    · have hf := pm_it hf c70
      obtain ⟨k71, hf⟩ := pm_if hf
      obtain ⟨v72, e73, hf⟩ := pm_bd hf
      rcases v72 with z75 | w74
      · have hf := pt_sl hf
        cases hf
        cases hi
        exact pm_S3.trans (show pm_S3 z75.2 _ from kpX16_stops e73) K0
      have K76 := pm_S3.trans (show pm_S3 w74 _ from kpX16_stops e73) K0
      have hf := pt_sr hf
      cases hf
      cases hi
      exact K76
    · have hf := pm_ie hf c70
      cases hf
      cases hi
      exact K0
set_option maxHeartbeats 4000000 in
set_option maxRecDepth 100000 in
theorem kpX16_character {h : pm_H} {a0 : Nat} {p1 : Int32} {p2 : Int32} {r : ((Nat × pm_H) ⊕ (Int32 × pm_H))} (hf : fX16_character h a0 p1 p2 = some r) : pt_SI r h := by
  unfold fX16_character at hf
  have K0 := pm_S3.rf h
  obtain ⟨k1, hf⟩ := pm_if hf
  obtain ⟨v2, e3, hf⟩ := pm_bd hf
  obtain ⟨k4, hf⟩ := pm_if hf
  obtain ⟨v5, e6, hf⟩ := pm_bd hf
  by_cases c7 : 128 ≤ v5
  · have hf := pm_it hf c7
    by_cases c8 : v5 < 192
    · have hf := pm_it hf c8
      obtain ⟨n, hn⟩ := pm_lim_iter hf
      exact pt_SI.trans ((klX16_character n).1 a0 p1 p2 v5 h hn) K0
    · have hf := pm_ie hf c8
      by_cases c9 : 224 ≤ v5
      · have hf := pm_it hf c9
        obtain ⟨n, hn⟩ := pm_lim_iter hf
        exact pt_SI.trans ((klX16_character n).1 a0 p1 p2 v5 h hn) K0
      · have hf := pm_ie hf c9
        obtain ⟨n, hn⟩ := pm_lim_iter hf
        exact pt_SI.trans ((klX16_character n).2.1 a0 p1 p2 v5 1 h hn) K0
  · have hf := pm_ie hf c7
    obtain ⟨n, hn⟩ := pm_lim_iter hf
    exact pt_SI.trans ((klX16_character n).2.1 a0 p1 p2 v5 0 h hn) K0
set_option maxHeartbeats 4000000 in
set_option maxRecDepth 100000 in
theorem klX16_checksExports {r : ((Nat × pm_H) ⊕ pm_H)} : ∀ n : Nat, (∀ (x0 : Nat) (x1 : Int32) (h : pm_H), pm_iter sX16_checksExports n (.inl (x0, x1, h)) = some r → pt_SV r h) ∧ (∀ (x0 : Nat) (x1 : Int32) (x2 : Int32) (h : pm_H), pm_iter sX16_checksExports n (.inr (x0, x1, x2, h)) = some r → pt_SV r h) := by
  intro n
  induction n with
  | zero => exact ⟨fun _ _ _ hf => (by cases hf), fun _ _ _ _ hf => (by cases hf)⟩
  | succ n ih =>
    refine ⟨fun x0 x1 h hf => ?_, ?_⟩
    · obtain ⟨y, hf, hi⟩ := pm_iter_s hf
      have hf : tX16_checksExports_2 x0 x1 h = some y := hf
      unfold tX16_checksExports_2 at hf
      have K0 := pm_S3.rf h
      obtain ⟨k1, hf⟩ := pm_if hf
      obtain ⟨v2, e3, hf⟩ := pm_bd hf
      obtain ⟨k4, hf⟩ := pm_if hf
      by_cases c5 : (pm_I h v2 28) ≤ x1
      · have hf := pm_it hf c5
        cases hf
        cases hi
        exact K0
      · have hf := pm_ie hf c5
        obtain ⟨v6, e7, hf⟩ := pm_bd hf
        obtain ⟨k8, hf⟩ := pm_if hf
        obtain ⟨u9, hf⟩ := pm_if hf
        obtain ⟨v10, e11, hf⟩ := pm_bd hf
        obtain ⟨k12, hf⟩ := pm_if hf
        obtain ⟨u13, hf⟩ := pm_if hf
        obtain ⟨v14, e15, hf⟩ := pm_bd hf
        by_cases c16 : (pm_L h v6 x1.toNatClampNeg) < v14.toInt64
        · have hf := pm_it hf c16
          cases hf
          exact pt_SV.trans (ih.2 x0 x1 0 h hi) K0
        · have hf := pm_ie hf c16
          obtain ⟨v17, e18, hf⟩ := pm_bd hf
          obtain ⟨k19, hf⟩ := pm_if hf
          obtain ⟨u20, hf⟩ := pm_if hf
          obtain ⟨v21, e22, hf⟩ := pm_bd hf
          rcases v21 with z24 | w23
          · have hf := pt_sl hf
            cases hf
            cases hi
            exact pm_S3.trans (show pm_S3 z24.2 _ from kpX16_stops e22) K0
          have K25 := pm_S3.trans (show pm_S3 w23 _ from kpX16_stops e22) K0
          have hf := pt_sr hf
          cases hf
          exact pt_SV.trans (ih.2 x0 x1 0 w23 hi) K25
    refine fun x0 x1 x2 h hf => ?_
    obtain ⟨y, hf, hi⟩ := pm_iter_s hf
    have hf : tX16_checksExports_61 x0 x1 x2 h = some y := hf
    unfold tX16_checksExports_61 at hf
    have K0 := pm_S3.rf h
    by_cases c26 : x1 ≤ x2
    · have hf := pm_it hf c26
      obtain ⟨y27, e28, hf⟩ := pm_lt hf
      cases hf
      exact pt_SV.trans (ih.1 x0 y27 h hi) K0
    · have hf := pm_ie hf c26
      obtain ⟨k29, hf⟩ := pm_if hf
      obtain ⟨v30, e31, hf⟩ := pm_bd hf
      by_cases c32 : v30 = 0
      · have hf := pm_it hf c32
        obtain ⟨y33, e34, hf⟩ := pm_lt hf
        cases hf
        exact pt_SV.trans (ih.2 x0 x1 y33 h hi) K0
      · have hf := pm_ie hf c32
        obtain ⟨v35, e36, hf⟩ := pm_bd hf
        obtain ⟨k37, hf⟩ := pm_if hf
        obtain ⟨v38, e39, hf⟩ := pm_bd hf
        obtain ⟨k40, hf⟩ := pm_if hf
        obtain ⟨u41, hf⟩ := pm_if hf
        obtain ⟨v42, e43, hf⟩ := pm_bd hf
        rcases v42 with z45 | w44
        · have hf := pt_sl hf
          cases hf
          cases hi
          exact pm_S3.trans (show pm_S3 z45.2 _ from kpX16_stops e43) K0
        have K46 := pm_S3.trans (show pm_S3 w44 _ from kpX16_stops e43) K0
        have hf := pt_sr hf
        obtain ⟨y47, e48, hf⟩ := pm_lt hf
        cases hf
        exact pt_SV.trans (ih.2 x0 x1 y47 w44 hi) K46
set_option maxHeartbeats 4000000 in
set_option maxRecDepth 100000 in
theorem kpX16_checksExports {h : pm_H} {a0 : Nat} {r : ((Nat × pm_H) ⊕ pm_H)} (hf : fX16_checksExports h a0 = some r) : pt_SV r h := by
  unfold fX16_checksExports at hf
  have K0 := pm_S3.rf h
  obtain ⟨n, hn⟩ := pm_lim_iter hf
  exact pt_SV.trans ((klX16_checksExports n).1 a0 0 h hn) K0
set_option maxHeartbeats 4000000 in
set_option maxRecDepth 100000 in
theorem klX16_checksLimits {r : ((Nat × pm_H) ⊕ pm_H)} : ∀ n : Nat, (∀ (x0 : Nat) (x1 : Int32) (h : pm_H), pm_iter sX16_checksLimits n (.inl (x0, x1, h)) = some r → pt_SV r h) ∧ (∀ (x0 : Nat) (x1 : Int32) (h : pm_H), pm_iter sX16_checksLimits n (.inr (.inl (x0, x1, h))) = some r → pt_SV r h) ∧ (∀ (x0 : Nat) (x1 : Int32) (x2 : Int32) (h : pm_H), pm_iter sX16_checksLimits n (.inr (.inr (.inl (x0, x1, x2, h)))) = some r → pt_SV r h) ∧ (∀ (x0 : Nat) (x1 : Int32) (h : pm_H), pm_iter sX16_checksLimits n (.inr (.inr (.inr (x0, x1, h)))) = some r → pt_SV r h) := by
  intro n
  induction n with
  | zero => exact ⟨fun _ _ _ hf => (by cases hf), fun _ _ _ hf => (by cases hf), fun _ _ _ _ hf => (by cases hf), fun _ _ _ hf => (by cases hf)⟩
  | succ n ih =>
    refine ⟨fun x0 x1 h hf => ?_, ?_⟩
    · obtain ⟨y, hf, hi⟩ := pm_iter_s hf
      have hf : tX16_checksLimits_2 x0 x1 h = some y := hf
      unfold tX16_checksLimits_2 at hf
      have K0 := pm_S3.rf h
      obtain ⟨k1, hf⟩ := pm_if hf
      obtain ⟨v2, e3, hf⟩ := pm_bd hf
      obtain ⟨k4, hf⟩ := pm_if hf
      by_cases c5 : (pm_I h v2 8) ≤ x1
      · have hf := pm_it hf c5
        cases hf
        exact pt_SV.trans (ih.2.1 x0 0 h hi) K0
      · have hf := pm_ie hf c5
        obtain ⟨v6, e7, hf⟩ := pm_bd hf
        obtain ⟨k8, hf⟩ := pm_if hf
        obtain ⟨u9, hf⟩ := pm_if hf
        obtain ⟨y10, e11, hf⟩ := pm_lt hf
        by_cases c12 : y10 = 1
        · have hf := pm_it hf c12
          cases hf
          exact pt_SV.trans (ih.2.2.1 x0 x1 y10 h hi) K0
        · have hf := pm_ie hf c12
          by_cases c13 : y10 = 2
          · have hf := pm_it hf c13
            cases hf
            exact pt_SV.trans (ih.2.2.1 x0 x1 y10 h hi) K0
          · have hf := pm_ie hf c13
            obtain ⟨y14, e15, hf⟩ := pm_lt hf
            cases hf
            exact pt_SV.trans (ih.1 x0 y14 h hi) K0
    refine ⟨fun x0 x1 h hf => ?_, ?_⟩
    · obtain ⟨y, hf, hi⟩ := pm_iter_s hf
      have hf : tX16_checksLimits_90 x0 x1 h = some y := hf
      unfold tX16_checksLimits_90 at hf
      have K0 := pm_S3.rf h
      obtain ⟨k16, hf⟩ := pm_if hf
      obtain ⟨v17, e18, hf⟩ := pm_bd hf
      obtain ⟨k19, hf⟩ := pm_if hf
      by_cases c20 : (pm_I h v17 17) ≤ x1
      · have hf := pm_it hf c20
        cases hf
        exact pt_SV.trans (ih.2.2.2 x0 0 h hi) K0
      · have hf := pm_ie hf c20
        obtain ⟨v21, e22, hf⟩ := pm_bd hf
        obtain ⟨k23, hf⟩ := pm_if hf
        obtain ⟨u24, hf⟩ := pm_if hf
        obtain ⟨v25, e26, hf⟩ := pm_bd hf
        obtain ⟨k27, hf⟩ := pm_if hf
        obtain ⟨u28, hf⟩ := pm_if hf
        obtain ⟨v29, e30, hf⟩ := pm_lt hf
        by_cases c31 : v29 = 0
        · have hf := pm_it hf c31
          obtain ⟨v32, e33, hf⟩ := pm_bd hf
          obtain ⟨k34, hf⟩ := pm_if hf
          obtain ⟨u35, hf⟩ := pm_if hf
          obtain ⟨v36, e37, hf⟩ := pm_bd hf
          rcases v36 with z39 | w38
          · have hf := pt_sl hf
            cases hf
            cases hi
            exact pm_S3.trans (show pm_S3 z39.2 _ from kpX16_stops e37) K0
          have K40 := pm_S3.trans (show pm_S3 w38 _ from kpX16_stops e37) K0
          have hf := pt_sr hf
          obtain ⟨y41, e42, hf⟩ := pm_lt hf
          cases hf
          exact pt_SV.trans (ih.2.1 x0 y41 w38 hi) K40
        · have hf := pm_ie hf c31
          obtain ⟨y43, e44, hf⟩ := pm_lt hf
          cases hf
          exact pt_SV.trans (ih.2.1 x0 y43 h hi) K0
    refine ⟨fun x0 x1 x2 h hf => ?_, ?_⟩
    · obtain ⟨y, hf, hi⟩ := pm_iter_s hf
      have hf : tX16_checksLimits_33 x0 x1 x2 h = some y := hf
      unfold tX16_checksLimits_33 at hf
      have K0 := pm_S3.rf h
      obtain ⟨k45, hf⟩ := pm_if hf
      obtain ⟨v46, e47, hf⟩ := pm_bd hf
      obtain ⟨k48, hf⟩ := pm_if hf
      obtain ⟨v49, e50, hf⟩ := pm_bd hf
      obtain ⟨k51, hf⟩ := pm_if hf
      obtain ⟨u52, hf⟩ := pm_if hf
      obtain ⟨v53, e54, hf⟩ := pm_bd hf
      obtain ⟨k55, hf⟩ := pm_if hf
      obtain ⟨u56, hf⟩ := pm_if hf
      by_cases c57 : x2 = 2
      · have hf := pm_it hf c57
        obtain ⟨v58, e59, hf⟩ := pm_lt hf
        by_cases c60 : v58 = 0
        · have hf := pm_it hf c60
          obtain ⟨v61, e62, hf⟩ := pm_bd hf
          obtain ⟨k63, hf⟩ := pm_if hf
          obtain ⟨u64, hf⟩ := pm_if hf
          obtain ⟨v65, e66, hf⟩ := pm_bd hf
          rcases v65 with z68 | w67
          · have hf := pt_sl hf
            cases hf
            cases hi
            exact pm_S3.trans (show pm_S3 z68.2 _ from kpX16_stops e66) K0
          have K69 := pm_S3.trans (show pm_S3 w67 _ from kpX16_stops e66) K0
          have hf := pt_sr hf
          obtain ⟨y70, e71, hf⟩ := pm_lt hf
          cases hf
          exact pt_SV.trans (ih.1 x0 y70 w67 hi) K69
        · have hf := pm_ie hf c60
          obtain ⟨y72, e73, hf⟩ := pm_lt hf
          cases hf
          exact pt_SV.trans (ih.1 x0 y72 h hi) K0
      · have hf := pm_ie hf c57
        obtain ⟨v74, e75, hf⟩ := pm_lt hf
        by_cases c76 : v74 = 0
        · have hf := pm_it hf c76
          obtain ⟨v77, e78, hf⟩ := pm_bd hf
          obtain ⟨k79, hf⟩ := pm_if hf
          obtain ⟨u80, hf⟩ := pm_if hf
          obtain ⟨v81, e82, hf⟩ := pm_bd hf
          rcases v81 with z84 | w83
          · have hf := pt_sl hf
            cases hf
            cases hi
            exact pm_S3.trans (show pm_S3 z84.2 _ from kpX16_stops e82) K0
          have K85 := pm_S3.trans (show pm_S3 w83 _ from kpX16_stops e82) K0
          have hf := pt_sr hf
          obtain ⟨y86, e87, hf⟩ := pm_lt hf
          cases hf
          exact pt_SV.trans (ih.1 x0 y86 w83 hi) K85
        · have hf := pm_ie hf c76
          obtain ⟨y88, e89, hf⟩ := pm_lt hf
          cases hf
          exact pt_SV.trans (ih.1 x0 y88 h hi) K0
    refine fun x0 x1 h hf => ?_
    obtain ⟨y, hf, hi⟩ := pm_iter_s hf
    have hf : tX16_checksLimits_149 x0 x1 h = some y := hf
    unfold tX16_checksLimits_149 at hf
    have K0 := pm_S3.rf h
    obtain ⟨k90, hf⟩ := pm_if hf
    obtain ⟨v91, e92, hf⟩ := pm_bd hf
    obtain ⟨k93, hf⟩ := pm_if hf
    by_cases c94 : (pm_I h v91 21) ≤ x1
    · have hf := pm_it hf c94
      cases hf
      cases hi
      exact K0
    · have hf := pm_ie hf c94
      obtain ⟨v95, e96, hf⟩ := pm_bd hf
      obtain ⟨k97, hf⟩ := pm_if hf
      obtain ⟨u98, hf⟩ := pm_if hf
      obtain ⟨v99, e100, hf⟩ := pm_bd hf
      obtain ⟨k101, hf⟩ := pm_if hf
      obtain ⟨u102, hf⟩ := pm_if hf
      obtain ⟨v103, e104, hf⟩ := pm_lt hf
      by_cases c105 : v103 = 0
      · have hf := pm_it hf c105
        obtain ⟨v106, e107, hf⟩ := pm_bd hf
        obtain ⟨k108, hf⟩ := pm_if hf
        obtain ⟨u109, hf⟩ := pm_if hf
        obtain ⟨v110, e111, hf⟩ := pm_bd hf
        rcases v110 with z113 | w112
        · have hf := pt_sl hf
          cases hf
          cases hi
          exact pm_S3.trans (show pm_S3 z113.2 _ from kpX16_stops e111) K0
        have K114 := pm_S3.trans (show pm_S3 w112 _ from kpX16_stops e111) K0
        have hf := pt_sr hf
        obtain ⟨y115, e116, hf⟩ := pm_lt hf
        cases hf
        exact pt_SV.trans (ih.2.2.2 x0 y115 w112 hi) K114
      · have hf := pm_ie hf c105
        obtain ⟨y117, e118, hf⟩ := pm_lt hf
        cases hf
        exact pt_SV.trans (ih.2.2.2 x0 y117 h hi) K0
set_option maxHeartbeats 4000000 in
set_option maxRecDepth 100000 in
theorem kpX16_checksLimits {h : pm_H} {a0 : Nat} {r : ((Nat × pm_H) ⊕ pm_H)} (hf : fX16_checksLimits h a0 = some r) : pt_SV r h := by
  unfold fX16_checksLimits at hf
  have K0 := pm_S3.rf h
  obtain ⟨n, hn⟩ := pm_lim_iter hf
  exact pt_SV.trans ((klX16_checksLimits n).1 a0 0 h hn) K0
