set_option maxHeartbeats 4000000 in
set_option maxRecDepth 100000 in
theorem kpX16_blockWord {h : pm_H} {a0 : Nat} {r : (Int64 × pm_H)} (hf : fX16_blockWord h a0 = some r) : pm_S3 r.2 h := by
  unfold fX16_blockWord at hf
  have K0 := pm_S3.rf h
  obtain ⟨k1, hf⟩ := pm_if hf
  obtain ⟨v2, e3, hf⟩ := pm_bd hf
  obtain ⟨k4, hf⟩ := pm_if hf
  obtain ⟨v5, e6, hf⟩ := pm_bd hf
  by_cases c7 : v5 = 64
  · have hf := pm_it hf c7
    obtain ⟨y8, e9, hf⟩ := pm_lt hf
    cases hf
    exact K0
  · have hf := pm_ie hf c7
    obtain ⟨v10, e11, hf⟩ := pm_lt hf
    by_cases c12 : v10 = 0
    · have hf := pm_it hf c12
      obtain ⟨v13, e14, hf⟩ := pm_bd hf
      have K15 := pm_S3.trans (kpX16_signedWord e14) K0
      cases hf
      exact K15
    · have hf := pm_ie hf c12
      obtain ⟨y16, e17, hf⟩ := pm_lt hf
      cases hf
      exact K0
set_option maxHeartbeats 4000000 in
set_option maxRecDepth 100000 in
theorem klX16_closes {r : pm_H} : ∀ n : Nat, (∀ (x0 : Nat) (x2 : Int32) (x3 : Int32) (x4 : Int32) (h : pm_H), pm_iter sX16_closes n (.inl (x0, x2, x3, x4, h)) = some r → pm_S3 r h) ∧ (∀ (x0 : Nat) (x2 : Int32) (x3 : Int32) (h : pm_H), pm_iter sX16_closes n (.inr (x0, x2, x3, h)) = some r → pm_S3 r h) := by
  intro n
  induction n with
  | zero => exact ⟨fun _ _ _ _ _ hf => (by cases hf), fun _ _ _ _ hf => (by cases hf)⟩
  | succ n ih =>
    refine ⟨fun x0 x2 x3 x4 h hf => ?_, ?_⟩
    · obtain ⟨y, hf, hi⟩ := pm_iter_s hf
      have hf : tX16_closes_142 x0 x2 x3 x4 h = some y := hf
      unfold tX16_closes_142 at hf
      have K0 := pm_S3.rf h
      by_cases c52 : x2 ≤ x4
      · have hf := pm_it hf c52
        obtain ⟨k53, hf⟩ := pm_if hf
        obtain ⟨y54, e55, hf⟩ := pm_lt hf
        obtain ⟨v56, e57, hf⟩ := pm_bd hf
        obtain ⟨y58, e59, hf⟩ := pm_lt hf
        obtain ⟨k60, hf⟩ := pm_if hf
        obtain ⟨u61, hf⟩ := pm_if hf
        obtain ⟨y62, e63, hf⟩ := pm_lt hf
        obtain ⟨v64, e65, hf⟩ := pm_bd hf
        obtain ⟨y66, e67, hf⟩ := pm_lt hf
        obtain ⟨k68, hf⟩ := pm_if hf
        obtain ⟨u69, hf⟩ := pm_if hf
        obtain ⟨y70, e71, hf⟩ := pm_lt hf
        obtain ⟨v72, e73, hf⟩ := pm_bd hf
        obtain ⟨v74, e75, hf⟩ := pm_bd hf
        obtain ⟨k76, hf⟩ := pm_if hf
        obtain ⟨u77, hf⟩ := pm_if hf
        obtain ⟨y78, e79, hf⟩ := pm_lt hf
        cases hf
        cases hi
        exact K0
      · have hf := pm_ie hf c52
        obtain ⟨k80, hf⟩ := pm_if hf
        obtain ⟨v81, e82, hf⟩ := pm_bd hf
        obtain ⟨y83, e84, hf⟩ := pm_lt hf
        obtain ⟨k85, hf⟩ := pm_if hf
        obtain ⟨u86, hf⟩ := pm_if hf
        obtain ⟨y87, e88, hf⟩ := pm_lt hf
        obtain ⟨u89, hf⟩ := pm_if hf
        obtain ⟨y90, e91, hf⟩ := pm_lt hf
        cases hf
        exact pm_S3.trans (ih.1 x0 x2 x3 y90 (pm_setL h v81 (((pm_I h x0 93) + x4).toNatClampNeg) y87) hi) K0
    refine fun x0 x2 x3 h hf => ?_
    obtain ⟨y, hf, hi⟩ := pm_iter_s hf
    have hf : tX16_closes_86 x0 x2 x3 h = some y := hf
    unfold tX16_closes_86 at hf
    have K0 := pm_S3.rf h
    by_cases c36 : x2 ≤ x3
    · have hf := pm_it hf c36
      cases hf
      cases hi
      exact K0
    · have hf := pm_ie hf c36
      obtain ⟨k37, hf⟩ := pm_if hf
      obtain ⟨v38, e39, hf⟩ := pm_bd hf
      obtain ⟨v40, e41, hf⟩ := pm_bd hf
      obtain ⟨y42, e43, hf⟩ := pm_lt hf
      obtain ⟨k44, hf⟩ := pm_if hf
      obtain ⟨u45, hf⟩ := pm_if hf
      obtain ⟨y46, e47, hf⟩ := pm_lt hf
      obtain ⟨k48, hf⟩ := pm_if hf
      obtain ⟨u49, hf⟩ := pm_if hf
      obtain ⟨y50, e51, hf⟩ := pm_lt hf
      cases hf
      exact pm_S3.trans (ih.2 x0 x2 y50 (pm_setL h v38 x3.toNatClampNeg y46) hi) K0
set_option maxHeartbeats 4000000 in
set_option maxRecDepth 100000 in
theorem kpX16_closes {h : pm_H} {a0 : Nat} {r : pm_H} (hf : fX16_closes h a0 = some r) : pm_S3 r h := by
  unfold fX16_closes at hf
  have K0 := pm_S3.rf h
  obtain ⟨k1, hf⟩ := pm_if hf
  obtain ⟨y2, e3, hf⟩ := pm_lt hf
  obtain ⟨y4, e5, hf⟩ := pm_lt hf
  obtain ⟨v6, e7, hf⟩ := pm_bd hf
  obtain ⟨y8, e9, hf⟩ := pm_lt hf
  obtain ⟨k10, hf⟩ := pm_if hf
  obtain ⟨u11, hf⟩ := pm_if hf
  by_cases c12 : (pm_I (pm_setI (pm_setI h a0 96 y2) a0 94 y4) a0 96) ≤ (pm_I (pm_setI (pm_setI h a0 96 y2) a0 94 y4) v6 y8.toNatClampNeg)
  · have hf := pm_it hf c12
    obtain ⟨v13, e14, hf⟩ := pm_bd hf
    obtain ⟨y15, e16, hf⟩ := pm_lt hf
    obtain ⟨k17, hf⟩ := pm_if hf
    obtain ⟨u18, hf⟩ := pm_if hf
    obtain ⟨y19, e20, hf⟩ := pm_lt hf
    obtain ⟨v21, e22, hf⟩ := pm_bd hf
    obtain ⟨y23, e24, hf⟩ := pm_lt hf
    by_cases c25 : (pm_I (pm_setI (pm_setI (pm_setI h a0 96 y2) a0 94 y4) a0 85 y23) a0 85) = 0
    · have hf := pm_it hf c25
      obtain ⟨n, hn⟩ := pm_lim_iter hf
      exact pm_S3.trans ((klX16_closes n).2 a0 v21 0 (pm_setI (pm_setI (pm_setI (pm_setI (pm_setI h a0 96 y2) a0 94 y4) a0 85 y23) a0 76 2) a0 83 v21) hn) K0
    · have hf := pm_ie hf c25
      obtain ⟨y26, e27, hf⟩ := pm_lt hf
      obtain ⟨v28, e29, hf⟩ := pm_bd hf
      obtain ⟨y30, e31, hf⟩ := pm_lt hf
      obtain ⟨k32, hf⟩ := pm_if hf
      obtain ⟨u33, hf⟩ := pm_if hf
      obtain ⟨y34, e35, hf⟩ := pm_lt hf
      obtain ⟨n, hn⟩ := pm_lim_iter hf
      exact pm_S3.trans ((klX16_closes n).1 a0 v21 y26 0 (pm_setI (pm_setI (pm_setI (pm_setI h a0 96 y2) a0 94 y4) a0 85 y23) a0 93 y34) hn) K0
  · have hf := pm_ie hf c12
    cases hf
    exact K0
set_option maxHeartbeats 4000000 in
set_option maxRecDepth 100000 in
theorem klX16_constant {r : (Int64 × pm_H)} : ∀ n : Nat, (∀ (x0 : Nat) (x1 : Int32) (x3 : Int64) (h : pm_H), pm_iter sX16_constant n (x0, x1, x3, h) = some r → pm_S3 r.2 h) := by
  intro n
  induction n with
  | zero => exact fun _ _ _ _ hf => (by cases hf)
  | succ n ih =>
    refine fun x0 x1 x3 h hf => ?_
    obtain ⟨y, hf, hi⟩ := pm_iter_s hf
    have hf : tX16_constant_7 x0 x1 x3 h = some y := hf
    unfold tX16_constant_7 at hf
    have K0 := pm_S3.rf h
    obtain ⟨k2, hf⟩ := pm_if hf
    obtain ⟨v3, e4, hf⟩ := pm_bd hf
    obtain ⟨k5, hf⟩ := pm_if hf
    obtain ⟨v6, e7, hf⟩ := pm_bd hf
    by_cases c8 : v6 = 11
    · have hf := pm_it hf c8
      obtain ⟨y9, e10, hf⟩ := pm_lt hf
      cases hf
      cases hi
      exact K0
    · have hf := pm_ie hf c8
      obtain ⟨v11, e12, hf⟩ := pm_bd hf
      obtain ⟨y13, e14, hf⟩ := pm_lt hf
      by_cases c15 : v11 = 65
      · have hf := pm_it hf c15
        by_cases c16 : v11 = 65
        · have hf := pm_it hf c16
          obtain ⟨v17, e18, hf⟩ := pm_bd hf
          have K19 := pm_S3.trans (kpX16_signedWord e18) K0
          obtain ⟨y20, e21, hf⟩ := pm_lt hf
          cases hf
          exact pm_S3.trans (ih x0 x1 y20 v17.2 hi) K19
        · have hf := pm_ie hf c16
          obtain ⟨v22, e23, hf⟩ := pm_bd hf
          have K24 := pm_S3.trans (kpX16_signedWord e23) K0
          cases hf
          exact pm_S3.trans (ih x0 x1 v22.1 v22.2 hi) K24
      · have hf := pm_ie hf c15
        by_cases c25 : v11 = 66
        · have hf := pm_it hf c25
          by_cases c26 : v11 = 65
          · have hf := pm_it hf c26
            obtain ⟨v27, e28, hf⟩ := pm_bd hf
            have K29 := pm_S3.trans (kpX16_signedWord e28) K0
            obtain ⟨y30, e31, hf⟩ := pm_lt hf
            cases hf
            exact pm_S3.trans (ih x0 x1 y30 v27.2 hi) K29
          · have hf := pm_ie hf c26
            obtain ⟨v32, e33, hf⟩ := pm_bd hf
            have K34 := pm_S3.trans (kpX16_signedWord e33) K0
            cases hf
            exact pm_S3.trans (ih x0 x1 v32.1 v32.2 hi) K34
        · have hf := pm_ie hf c25
          by_cases c35 : v11 = 67
          · have hf := pm_it hf c35
            by_cases c36 : v11 = 67
            · have hf := pm_it hf c36
              obtain ⟨v37, e38, hf⟩ := pm_bd hf
              have K39 := pm_S3.trans (kpX16_bytesAt e38) K0
              cases hf
              exact pm_S3.trans (ih x0 x1 v37.1 v37.2 hi) K39
            · have hf := pm_ie hf c36
              obtain ⟨v40, e41, hf⟩ := pm_bd hf
              have K42 := pm_S3.trans (kpX16_bytesAt e41) K0
              cases hf
              exact pm_S3.trans (ih x0 x1 v40.1 v40.2 hi) K42
          · have hf := pm_ie hf c35
            by_cases c43 : v11 = 68
            · have hf := pm_it hf c43
              by_cases c44 : v11 = 67
              · have hf := pm_it hf c44
                obtain ⟨v45, e46, hf⟩ := pm_bd hf
                have K47 := pm_S3.trans (kpX16_bytesAt e46) K0
                cases hf
                exact pm_S3.trans (ih x0 x1 v45.1 v45.2 hi) K47
              · have hf := pm_ie hf c44
                obtain ⟨v48, e49, hf⟩ := pm_bd hf
                have K50 := pm_S3.trans (kpX16_bytesAt e49) K0
                cases hf
                exact pm_S3.trans (ih x0 x1 v48.1 v48.2 hi) K50
            · have hf := pm_ie hf c43
              by_cases c51 : v11 = 208
              · have hf := pm_it hf c51
                obtain ⟨y52, e53, hf⟩ := pm_lt hf
                cases hf
                exact pm_S3.trans (ih x0 x1 (-1) (pm_setI (pm_setI h x0 19 y13) x0 19 y52) hi) K0
              · have hf := pm_ie hf c51
                obtain ⟨v54, e55, hf⟩ := pm_bd hf
                have K56 := pm_S3.trans (kpX16_word e55) K0
                obtain ⟨y57, e58, hf⟩ := pm_lt hf
                by_cases c59 : v11 = 210
                · have hf := pm_it hf c59
                  obtain ⟨k60, hf⟩ := pm_if hf
                  obtain ⟨v61, e62, hf⟩ := pm_bd hf
                  obtain ⟨k63, hf⟩ := pm_if hf
                  obtain ⟨u64, hf⟩ := pm_if hf
                  obtain ⟨y65, e66, hf⟩ := pm_lt hf
                  cases hf
                  exact pm_S3.trans (ih x0 x1 y65 v54.2 hi) K56
                · have hf := pm_ie hf c59
                  obtain ⟨k67, hf⟩ := pm_if hf
                  obtain ⟨v68, e69, hf⟩ := pm_bd hf
                  obtain ⟨v70, e71, hf⟩ := pm_bd hf
                  obtain ⟨k72, hf⟩ := pm_if hf
                  obtain ⟨u73, hf⟩ := pm_if hf
                  obtain ⟨y74, e75, hf⟩ := pm_lt hf
                  obtain ⟨k76, hf⟩ := pm_if hf
                  obtain ⟨u77, hf⟩ := pm_if hf
                  obtain ⟨y78, e79, hf⟩ := pm_lt hf
                  cases hf
                  exact pm_S3.trans (ih x0 x1 y78 v54.2 hi) K56
set_option maxHeartbeats 4000000 in
set_option maxRecDepth 100000 in
theorem kpX16_constant {h : pm_H} {a0 : Nat} {p1 : Int32} {p2 : Int32} {r : (Int64 × pm_H)} (hf : fX16_constant h a0 p1 p2 = some r) : pm_S3 r.2 h := by
  unfold fX16_constant at hf
  have K0 := pm_S3.rf h
  obtain ⟨k1, hf⟩ := pm_if hf
  obtain ⟨n, hn⟩ := pm_lim_iter hf
  exact pm_S3.trans ((klX16_constant n) a0 p1 0 (pm_setI h a0 19 p2) hn) K0
set_option maxHeartbeats 4000000 in
set_option maxRecDepth 100000 in
theorem kpX16_constantType_b34 {h : pm_H} {x0 : Nat} {x1 : Int32} {x2 : Int32} {r : (Int32 × pm_H)} (hf : fX16_constantType_b34 h x0 x1 x2 = some r) : pm_S3 r.2 h := by
  unfold fX16_constantType_b34 at hf
  have K0 := pm_S3.rf h
  by_cases c11 : x2 = 208
  · have hf := pm_it hf c11
    obtain ⟨k12, hf⟩ := pm_if hf
    obtain ⟨v13, e14, hf⟩ := pm_bd hf
    obtain ⟨k15, hf⟩ := pm_if hf
    obtain ⟨v16, e17, hf⟩ := pm_bd hf
    cases hf
    exact K0
  · have hf := pm_ie hf c11
    by_cases c18 : x2 = 210
    · have hf := pm_it hf c18
      cases hf
      exact K0
    · have hf := pm_ie hf c18
      by_cases c19 : x2 = 35
      · have hf := pm_it hf c19
        obtain ⟨k20, hf⟩ := pm_if hf
        obtain ⟨v21, e22, hf⟩ := pm_bd hf
        have K23 := pm_S3.trans (kpX16_word e22) K0
        obtain ⟨k24, hf⟩ := pm_if hf
        obtain ⟨v25, e26, hf⟩ := pm_bd hf
        obtain ⟨k27, hf⟩ := pm_if hf
        obtain ⟨v28, e29, hf⟩ := pm_bd hf
        by_cases c30 : v28.toInt64 ≤ v21.1
        · have hf := pm_it hf c30
          cases hf
          exact K23
        · have hf := pm_ie hf c30
          obtain ⟨v31, e32, hf⟩ := pm_bd hf
          by_cases c33 : v31 = 0
          · have hf := pm_it hf c33
            obtain ⟨v34, e35, hf⟩ := pm_bd hf
            cases hf
            exact K23
          · have hf := pm_ie hf c33
            cases hf
            exact K23
      · have hf := pm_ie hf c19
        cases hf
        exact K0
set_option maxHeartbeats 4000000 in
set_option maxRecDepth 100000 in
theorem kpX16_constantType {h : pm_H} {a0 : Nat} {p1 : Int32} {r : (Int32 × pm_H)} (hf : fX16_constantType h a0 p1 = some r) : pm_S3 r.2 h := by
  unfold fX16_constantType at hf
  have K0 := pm_S3.rf h
  obtain ⟨k1, hf⟩ := pm_if hf
  obtain ⟨v2, e3, hf⟩ := pm_bd hf
  obtain ⟨k4, hf⟩ := pm_if hf
  obtain ⟨v5, e6, hf⟩ := pm_bd hf
  obtain ⟨y7, e8, hf⟩ := pm_lt hf
  by_cases c9 : v5 < 65
  · have hf := pm_it hf c9
    exact pm_S3.trans (kpX16_constantType_b34 hf) K0
  · have hf := pm_ie hf c9
    by_cases c10 : 68 < v5
    · have hf := pm_it hf c10
      exact pm_S3.trans (kpX16_constantType_b34 hf) K0
    · have hf := pm_ie hf c10
      cases hf
      exact K0
set_option maxHeartbeats 4000000 in
set_option maxRecDepth 100000 in
theorem klX16_copiesData {r : (Int32 × pm_H)} : ∀ n : Nat, (∀ (x0 : Nat) (x2 : Int32) (x3 : Int32) (x4 : Int64) (x6 : Int64) (x8 : Int64) (x10 : Nat) (x12 : Int32) (h : pm_H), pm_iter sX16_copiesData n (x0, x2, x3, x4, x6, x8, x10, x12, h) = some r → pm_S3 r.2 h) := by
  intro n
  induction n with
  | zero => exact fun _ _ _ _ _ _ _ _ _ hf => (by cases hf)
  | succ n ih =>
    refine fun x0 x2 x3 x4 x6 x8 x10 x12 h hf => ?_
    obtain ⟨y, hf, hi⟩ := pm_iter_s hf
    have hf : tX16_copiesData_77 x0 x2 x3 x4 x6 x8 x10 x12 h = some y := hf
    unfold tX16_copiesData_77 at hf
    have K0 := pm_S3.rf h
    by_cases c40 : x8 ≤ x12.toInt64
    · have hf := pm_it hf c40
      cases hf
      cases hi
      exact K0
    · have hf := pm_ie hf c40
      obtain ⟨k41, hf⟩ := pm_if hf
      obtain ⟨v42, e43, hf⟩ := pm_bd hf
      obtain ⟨v44, e45, hf⟩ := pm_bd hf
      obtain ⟨k46, hf⟩ := pm_if hf
      obtain ⟨u47, hf⟩ := pm_if hf
      obtain ⟨y48, e49, hf⟩ := pm_lt hf
      obtain ⟨k50, hf⟩ := pm_if hf
      obtain ⟨u51, hf⟩ := pm_if hf
      obtain ⟨k52, hf⟩ := pm_if hf
      obtain ⟨v53, e54, hf⟩ := pm_bd hf
      have K55 := pm_S3.trans (kpX16_sets e54) K0
      obtain ⟨y56, e57, hf⟩ := pm_lt hf
      cases hf
      exact pm_S3.trans (ih x0 x2 x3 x4 x6 x8 x10 y56 v53 hi) K55
set_option maxHeartbeats 4000000 in
set_option maxRecDepth 100000 in
theorem kpX16_copiesData {h : pm_H} {a0 : Nat} {p1 : Int32} {p2 : Int32} {p3 : Int32} {p4 : Int64} {p5 : Int64} {p6 : Int64} {r : (Int32 × pm_H)} (hf : fX16_copiesData h a0 p1 p2 p3 p4 p5 p6 = some r) : pm_S3 r.2 h := by
  unfold fX16_copiesData at hf
  have K0 := pm_S3.rf h
  obtain ⟨k1, hf⟩ := pm_if hf
  obtain ⟨v2, e3, hf⟩ := pm_bd hf
  obtain ⟨v4, e5, hf⟩ := pm_bd hf
  obtain ⟨k6, hf⟩ := pm_if hf
  obtain ⟨u7, hf⟩ := pm_if hf
  obtain ⟨y8, e9, hf⟩ := pm_lt hf
  obtain ⟨k10, hf⟩ := pm_if hf
  obtain ⟨u11, hf⟩ := pm_if hf
  obtain ⟨v12, e13, hf⟩ := pm_bd hf
  obtain ⟨v14, e15, hf⟩ := pm_bd hf
  obtain ⟨y16, e17, hf⟩ := pm_lt hf
  obtain ⟨k18, hf⟩ := pm_if hf
  obtain ⟨u19, hf⟩ := pm_if hf
  by_cases c20 : (pm_I h v14 y16.toNatClampNeg) = 0
  · have hf := pm_it hf c20
    by_cases c21 : ((0 : Int32).toInt64) < (p5 + p6)
    · have hf := pm_it hf c21
      cases hf
      exact K0
    · have hf := pm_ie hf c21
      obtain ⟨v22, e23, hf⟩ := pm_bd hf
      obtain ⟨k24, hf⟩ := pm_if hf
      obtain ⟨u25, hf⟩ := pm_if hf
      by_cases c26 : (p4 + p6) ≤ (65536 * ((pm_I h v22 p3.toNatClampNeg).toInt64))
      · have hf := pm_it hf c26
        obtain ⟨n, hn⟩ := pm_lim_iter hf
        exact pm_S3.trans ((klX16_copiesData n) a0 p2 p3 p4 p5 p6 v12 0 h hn) K0
      · have hf := pm_ie hf c26
        cases hf
        exact K0
  · have hf := pm_ie hf c20
    obtain ⟨k27, hf⟩ := pm_if hf
    obtain ⟨v28, e29, hf⟩ := pm_bd hf
    obtain ⟨k30, hf⟩ := pm_if hf
    obtain ⟨u31, hf⟩ := pm_if hf
    obtain ⟨y32, e33, hf⟩ := pm_lt hf
    by_cases c34 : y32.toInt64 < (p5 + p6)
    · have hf := pm_it hf c34
      cases hf
      exact K0
    · have hf := pm_ie hf c34
      obtain ⟨v35, e36, hf⟩ := pm_bd hf
      obtain ⟨k37, hf⟩ := pm_if hf
      obtain ⟨u38, hf⟩ := pm_if hf
      by_cases c39 : (p4 + p6) ≤ (65536 * ((pm_I h v35 p3.toNatClampNeg).toInt64))
      · have hf := pm_it hf c39
        obtain ⟨n, hn⟩ := pm_lim_iter hf
        exact pm_S3.trans ((klX16_copiesData n) a0 p2 p3 p4 p5 p6 v12 0 h hn) K0
      · have hf := pm_ie hf c39
        cases hf
        exact K0
set_option maxHeartbeats 4000000 in
set_option maxRecDepth 100000 in
theorem kpX16_divided_b58 {h : pm_H} {x1 : Int32} {x2 : Int64} {x4 : Int64} {r : (Int64 × pm_H)} (hf : fX16_divided_b58 h x1 x2 x4 = some r) : pm_S3 r.2 h := by
  unfold fX16_divided_b58 at hf
  have K0 := pm_S3.rf h
  by_cases c15 : x1 = 0
  · have hf := pm_it hf c15
    obtain ⟨u16, hf⟩ := pm_if hf
    cases hf
    exact K0
  · have hf := pm_ie hf c15
    by_cases c17 : x1 = 2
    · have hf := pm_it hf c17
      obtain ⟨u18, hf⟩ := pm_if hf
      cases hf
      exact K0
    · have hf := pm_ie hf c17
      by_cases c19 : x1 = 1
      · have hf := pm_it hf c19
        obtain ⟨v20, e21, hf⟩ := pm_bd hf
        cases hf
        exact K0
      · have hf := pm_ie hf c19
        obtain ⟨v22, e23, hf⟩ := pm_bd hf
        cases hf
        exact K0
set_option maxHeartbeats 4000000 in
set_option maxRecDepth 100000 in
theorem kpX16_divided_b42 {h : pm_H} {x1 : Int32} {x2 : Int64} {x4 : Int64} {r : (Int64 × pm_H)} (hf : fX16_divided_b42 h x1 x2 x4 = some r) : pm_S3 r.2 h := by
  unfold fX16_divided_b42 at hf
  have K0 := pm_S3.rf h
  by_cases c13 : x1 = 2
  · have hf := pm_it hf c13
    by_cases c14 : x4 = (-1)
    · have hf := pm_it hf c14
      cases hf
      exact K0
    · have hf := pm_ie hf c14
      exact pm_S3.trans (kpX16_divided_b58 hf) K0
  · have hf := pm_ie hf c13
    exact pm_S3.trans (kpX16_divided_b58 hf) K0
set_option maxHeartbeats 4000000 in
set_option maxRecDepth 100000 in
theorem kpX16_divided {h : pm_H} {a0 : Nat} {p1 : Int32} {p2 : Int64} {p3 : Int64} {p4 : Int64} {r : (Int64 × pm_H)} (hf : fX16_divided h a0 p1 p2 p3 p4 = some r) : pm_S3 r.2 h := by
  unfold fX16_divided at hf
  have K0 := pm_S3.rf h
  by_cases c1 : p3 = 0
  · have hf := pm_it hf c1
    obtain ⟨k2, hf⟩ := pm_if hf
    obtain ⟨v3, e4, hf⟩ := pm_bd hf
    have K5 := pm_S3.trans (kpX16_traps e4) K0
    cases hf
    exact K5
  · have hf := pm_ie hf c1
    by_cases c6 : p1 = 0
    · have hf := pm_it hf c6
      by_cases c7 : p3 = (-1)
      · have hf := pm_it hf c7
        by_cases c8 : p2 = p4
        · have hf := pm_it hf c8
          obtain ⟨k9, hf⟩ := pm_if hf
          obtain ⟨v10, e11, hf⟩ := pm_bd hf
          have K12 := pm_S3.trans (kpX16_traps e11) K0
          cases hf
          exact K12
        · have hf := pm_ie hf c8
          cases hf
          exact K0
      · have hf := pm_ie hf c7
        exact pm_S3.trans (kpX16_divided_b42 hf) K0
    · have hf := pm_ie hf c6
      exact pm_S3.trans (kpX16_divided_b42 hf) K0
set_option maxHeartbeats 4000000 in
set_option maxRecDepth 100000 in
theorem kpX16_entry_b14 {h : pm_H} {x0 : Nat} {x1 : Int32} {x2 : Int32} {s0 : Int64} {r : pm_H} (hf : fX16_entry_b14 h x0 x1 x2 s0 = some r) : pm_S3 r h := by
  unfold fX16_entry_b14 at hf
  have K0 := pm_S3.rf h
  obtain ⟨k6, hf⟩ := pm_if hf
  obtain ⟨v7, e8, hf⟩ := pm_bd hf
  have K9 := pm_S3.trans (kpX16_pop e8) K0
  obtain ⟨k10, hf⟩ := pm_if hf
  obtain ⟨v11, e12, hf⟩ := pm_bd hf
  obtain ⟨k13, hf⟩ := pm_if hf
  obtain ⟨u14, hf⟩ := pm_if hf
  by_cases c15 : v7.1 < ((pm_I v7.2 v11 x2.toNatClampNeg).toInt64)
  · have hf := pm_it hf c15
    by_cases c16 : x1 = 38
    · have hf := pm_it hf c16
      obtain ⟨v17, e18, hf⟩ := pm_bd hf
      obtain ⟨k19, hf⟩ := pm_if hf
      obtain ⟨u20, hf⟩ := pm_if hf
      cases hf
      exact K9
    · have hf := pm_ie hf c16
      obtain ⟨v21, e22, hf⟩ := pm_bd hf
      obtain ⟨y23, e24, hf⟩ := pm_lt hf
      obtain ⟨k25, hf⟩ := pm_if hf
      obtain ⟨u26, hf⟩ := pm_if hf
      obtain ⟨v27, e28, hf⟩ := pm_bd hf
      have K29 := pm_S3.trans (kpX16_push e28) K9
      cases hf
      exact K29
  · have hf := pm_ie hf c15
    obtain ⟨v30, e31, hf⟩ := pm_bd hf
    have K32 := pm_S3.trans (kpX16_endsBy e31) K9
    cases hf
    exact K32
set_option maxHeartbeats 4000000 in
set_option maxRecDepth 100000 in
theorem kpX16_entry {h : pm_H} {a0 : Nat} {p1 : Int32} {p2 : Int32} {r : pm_H} (hf : fX16_entry h a0 p1 p2 = some r) : pm_S3 r h := by
  unfold fX16_entry at hf
  have K0 := pm_S3.rf h
  by_cases c1 : p1 = 38
  · have hf := pm_it hf c1
    obtain ⟨k2, hf⟩ := pm_if hf
    obtain ⟨v3, e4, hf⟩ := pm_bd hf
    have K5 := pm_S3.trans (kpX16_pop e4) K0
    exact pm_S3.trans (kpX16_entry_b14 hf) K5
  · have hf := pm_ie hf c1
    exact pm_S3.trans (kpX16_entry_b14 hf) K0
set_option maxHeartbeats 4000000 in
set_option maxRecDepth 100000 in
theorem kpX16_feed {h : pm_H} {a0 : Nat} {p1 : Int32} {p2 : Int32} {p3 : Int32} {p4 : Int32} {p5 : Int32} {r : (Int32 × pm_H)} (hf : fX16_feed h a0 p1 p2 p3 p4 p5 = some r) : pm_S3 r.2 h := by
  unfold fX16_feed at hf
  have K0 := pm_S3.rf h
  obtain ⟨k1, hf⟩ := pm_if hf
  by_cases c2 : ((pm_I h a0 2) + 20) ≤ 40960
  · have hf := pm_it hf c2
    obtain ⟨y3, e4, hf⟩ := pm_lt hf
    obtain ⟨v5, e6, hf⟩ := pm_bd hf
    have K7 := pm_S3.trans (kpX16_puts e6) K0
    obtain ⟨k8, hf⟩ := pm_if hf
    obtain ⟨v9, e10, hf⟩ := pm_bd hf
    have K11 := pm_S3.trans (kpX16_puts e10) K7
    obtain ⟨k12, hf⟩ := pm_if hf
    obtain ⟨v13, e14, hf⟩ := pm_bd hf
    have K15 := pm_S3.trans (kpX16_puts e14) K11
    obtain ⟨k16, hf⟩ := pm_if hf
    obtain ⟨v17, e18, hf⟩ := pm_bd hf
    have K19 := pm_S3.trans (kpX16_puts e18) K15
    obtain ⟨k20, hf⟩ := pm_if hf
    obtain ⟨v21, e22, hf⟩ := pm_bd hf
    have K23 := pm_S3.trans (kpX16_puts e22) K19
    obtain ⟨k24, hf⟩ := pm_if hf
    cases hf
    exact K23
  · have hf := pm_ie hf c2
    cases hf
    exact K0
set_option maxHeartbeats 4000000 in
set_option maxRecDepth 100000 in
theorem kpX16_give {h : pm_H} {a0 : Nat} {r : (Int32 × pm_H)} (hf : fX16_give h a0 = some r) : pm_S3 r.2 h := by
  unfold fX16_give at hf
  have K0 := pm_S3.rf h
  obtain ⟨k1, hf⟩ := pm_if hf
  obtain ⟨v2, e3, hf⟩ := pm_bd hf
  by_cases c4 : v2 = 0
  · have hf := pm_it hf c4
    cases hf
    exact K0
  · have hf := pm_ie hf c4
    cases hf
    exact K0
set_option maxHeartbeats 4000000 in
set_option maxRecDepth 100000 in
theorem kpX16_isNamedFurther_b53 {h : pm_H} {x0 : Nat} {x1 : Int32} {x2 : Int64} {s0 : Int64} {r : (Int32 × pm_H)} (hf : fX16_isNamedFurther_b53 h x0 x1 x2 s0 = some r) : pm_S3 r.2 h := by
  unfold fX16_isNamedFurther_b53 at hf
  have K0 := pm_S3.rf h
  by_cases c18 : x1 = 8
  · have hf := pm_it hf c18
    obtain ⟨k19, hf⟩ := pm_if hf
    obtain ⟨v20, e21, hf⟩ := pm_bd hf
    obtain ⟨k22, hf⟩ := pm_if hf
    by_cases c23 : ((pm_I h v20 44).toInt64) ≤ x2
    · have hf := pm_it hf c23
      cases hf
      exact K0
    · have hf := pm_ie hf c23
      obtain ⟨v24, e25, hf⟩ := pm_bd hf
      by_cases c26 : v24 ≤ 0
      · have hf := pm_it hf c26
        cases hf
        exact K0
      · have hf := pm_ie hf c26
        cases hf
        exact K0
  have hf := pm_ie hf c18
  by_cases c27 : x1 = 9
  · have hf := pm_it hf c27
    obtain ⟨k28, hf⟩ := pm_if hf
    obtain ⟨v29, e30, hf⟩ := pm_bd hf
    obtain ⟨k31, hf⟩ := pm_if hf
    by_cases c32 : ((pm_I h v29 44).toInt64) ≤ x2
    · have hf := pm_it hf c32
      cases hf
      exact K0
    · have hf := pm_ie hf c32
      cases hf
      exact K0
  have hf := pm_ie hf c27
  by_cases c33 : x1 = 10
  · have hf := pm_it hf c33
    obtain ⟨k34, hf⟩ := pm_if hf
    obtain ⟨v35, e36, hf⟩ := pm_bd hf
    obtain ⟨k37, hf⟩ := pm_if hf
    obtain ⟨v38, e39, hf⟩ := pm_bd hf
    by_cases c40 : v38 ≤ 0
    · have hf := pm_it hf c40
      cases hf
      exact K0
    · have hf := pm_ie hf c40
      cases hf
      exact K0
  have hf := pm_ie hf c33
  by_cases c41 : x1 = 11
  · have hf := pm_it hf c41
    obtain ⟨k42, hf⟩ := pm_if hf
    obtain ⟨v43, e44, hf⟩ := pm_bd hf
    obtain ⟨k45, hf⟩ := pm_if hf
    obtain ⟨v46, e47, hf⟩ := pm_bd hf
    by_cases c48 : v46 ≤ 0
    · have hf := pm_it hf c48
      cases hf
      exact K0
    · have hf := pm_ie hf c48
      cases hf
      exact K0
  have hf := pm_ie hf c41
  by_cases c49 : x1 = 12
  · have hf := pm_it hf c49
    obtain ⟨k50, hf⟩ := pm_if hf
    obtain ⟨v51, e52, hf⟩ := pm_bd hf
    obtain ⟨k53, hf⟩ := pm_if hf
    by_cases c54 : ((pm_I h v51 34).toInt64) ≤ x2
    · have hf := pm_it hf c54
      cases hf
      exact K0
    · have hf := pm_ie hf c54
      obtain ⟨v55, e56, hf⟩ := pm_bd hf
      by_cases c57 : v55.toInt64 ≤ s0
      · have hf := pm_it hf c57
        cases hf
        exact K0
      · have hf := pm_ie hf c57
        obtain ⟨v58, e59, hf⟩ := pm_bd hf
        obtain ⟨k60, hf⟩ := pm_if hf
        obtain ⟨u61, hf⟩ := pm_if hf
        obtain ⟨v62, e63, hf⟩ := pm_bd hf
        by_cases c64 : (pm_I h v58 x2.toInt32.toNatClampNeg) = v62
        · have hf := pm_it hf c64
          cases hf
          exact K0
        · have hf := pm_ie hf c64
          cases hf
          exact K0
  have hf := pm_ie hf c49
  by_cases c65 : x1 = 13
  · have hf := pm_it hf c65
    obtain ⟨k66, hf⟩ := pm_if hf
    obtain ⟨v67, e68, hf⟩ := pm_bd hf
    obtain ⟨k69, hf⟩ := pm_if hf
    by_cases c70 : ((pm_I h v67 34).toInt64) ≤ x2
    · have hf := pm_it hf c70
      cases hf
      exact K0
    · have hf := pm_ie hf c70
      cases hf
      exact K0
  have hf := pm_ie hf c65
  by_cases c71 : x1 = 14
  · have hf := pm_it hf c71
    obtain ⟨k72, hf⟩ := pm_if hf
    obtain ⟨v73, e74, hf⟩ := pm_bd hf
    obtain ⟨k75, hf⟩ := pm_if hf
    obtain ⟨v76, e77, hf⟩ := pm_bd hf
    by_cases c78 : v76.toInt64 ≤ x2
    · have hf := pm_it hf c78
      cases hf
      exact K0
    · have hf := pm_ie hf c78
      obtain ⟨v79, e80, hf⟩ := pm_bd hf
      by_cases c81 : v79.toInt64 ≤ s0
      · have hf := pm_it hf c81
        cases hf
        exact K0
      · have hf := pm_ie hf c81
        obtain ⟨v82, e83, hf⟩ := pm_bd hf
        obtain ⟨v84, e85, hf⟩ := pm_bd hf
        by_cases c86 : v82 = v84
        · have hf := pm_it hf c86
          cases hf
          exact K0
        · have hf := pm_ie hf c86
          cases hf
          exact K0
  have hf := pm_ie hf c71
  by_cases c87 : x1 = 15
  · have hf := pm_it hf c87
    obtain ⟨k88, hf⟩ := pm_if hf
    obtain ⟨v89, e90, hf⟩ := pm_bd hf
    obtain ⟨k91, hf⟩ := pm_if hf
    obtain ⟨v92, e93, hf⟩ := pm_bd hf
    by_cases c94 : v92.toInt64 ≤ x2
    · have hf := pm_it hf c94
      cases hf
      exact K0
    · have hf := pm_ie hf c94
      cases hf
      exact K0
  have hf := pm_ie hf c87
  by_cases c95 : x1 = 16
  · have hf := pm_it hf c95
    obtain ⟨k96, hf⟩ := pm_if hf
    obtain ⟨v97, e98, hf⟩ := pm_bd hf
    obtain ⟨k99, hf⟩ := pm_if hf
    obtain ⟨v100, e101, hf⟩ := pm_bd hf
    by_cases c102 : v100.toInt64 ≤ x2
    · have hf := pm_it hf c102
      cases hf
      exact K0
    · have hf := pm_ie hf c102
      cases hf
      exact K0
  have hf := pm_ie hf c95
  by_cases c103 : x1 = 17
  · have hf := pm_it hf c103
    obtain ⟨k104, hf⟩ := pm_if hf
    obtain ⟨v105, e106, hf⟩ := pm_bd hf
    obtain ⟨k107, hf⟩ := pm_if hf
    obtain ⟨v108, e109, hf⟩ := pm_bd hf
    by_cases c110 : v108.toInt64 ≤ x2
    · have hf := pm_it hf c110
      cases hf
      exact K0
    · have hf := pm_ie hf c110
      cases hf
      exact K0
  have hf := pm_ie hf c103
  cases hf
  exact K0
set_option maxHeartbeats 4000000 in
set_option maxRecDepth 100000 in
theorem kpX16_isNamedFurther_b45 {h : pm_H} {x0 : Nat} {x1 : Int32} {x2 : Int64} {r : (Int32 × pm_H)} (hf : fX16_isNamedFurther_b45 h x0 x1 x2 = some r) : pm_S3 r.2 h := by
  unfold fX16_isNamedFurther_b45 at hf
  have K0 := pm_S3.rf h
  obtain ⟨k14, hf⟩ := pm_if hf
  obtain ⟨v15, e16, hf⟩ := pm_bd hf
  have K17 := pm_S3.trans (kpX16_word e16) K0
  exact pm_S3.trans (kpX16_isNamedFurther_b53 hf) K17
set_option maxHeartbeats 4000000 in
set_option maxRecDepth 100000 in
theorem kpX16_isNamedFurther_b32 {h : pm_H} {x0 : Nat} {x1 : Int32} {s0 : Int64} {r : (Int32 × pm_H)} (hf : fX16_isNamedFurther_b32 h x0 x1 s0 = some r) : pm_S3 r.2 h := by
  unfold fX16_isNamedFurther_b32 at hf
  have K0 := pm_S3.rf h
  by_cases c12 : x1 = 12
  · have hf := pm_it hf c12
    exact pm_S3.trans (kpX16_isNamedFurther_b45 hf) K0
  · have hf := pm_ie hf c12
    by_cases c13 : x1 = 14
    · have hf := pm_it hf c13
      exact pm_S3.trans (kpX16_isNamedFurther_b45 hf) K0
    · have hf := pm_ie hf c13
      exact pm_S3.trans (kpX16_isNamedFurther_b53 hf) K0
set_option maxHeartbeats 4000000 in
set_option maxRecDepth 100000 in
theorem kpX16_isNamedFurther_b24 {h : pm_H} {x0 : Nat} {x1 : Int32} {r : (Int32 × pm_H)} (hf : fX16_isNamedFurther_b24 h x0 x1 = some r) : pm_S3 r.2 h := by
  unfold fX16_isNamedFurther_b24 at hf
  have K0 := pm_S3.rf h
  obtain ⟨k8, hf⟩ := pm_if hf
  obtain ⟨v9, e10, hf⟩ := pm_bd hf
  have K11 := pm_S3.trans (kpX16_word e10) K0
  exact pm_S3.trans (kpX16_isNamedFurther_b32 hf) K11
set_option maxHeartbeats 4000000 in
set_option maxRecDepth 100000 in
theorem kpX16_isNamedFurther {h : pm_H} {a0 : Nat} {r : (Int32 × pm_H)} (hf : fX16_isNamedFurther h a0 = some r) : pm_S3 r.2 h := by
  unfold fX16_isNamedFurther at hf
  have K0 := pm_S3.rf h
  obtain ⟨k1, hf⟩ := pm_if hf
  obtain ⟨v2, e3, hf⟩ := pm_bd hf
  have K4 := pm_S3.trans (kpX16_word e3) K0
  by_cases c5 : v2.1.toInt32 = 8
  · have hf := pm_it hf c5
    exact pm_S3.trans (kpX16_isNamedFurther_b24 hf) K4
  · have hf := pm_ie hf c5
    by_cases c6 : v2.1.toInt32 = 9
    · have hf := pm_it hf c6
      exact pm_S3.trans (kpX16_isNamedFurther_b24 hf) K4
    · have hf := pm_ie hf c6
      by_cases c7 : v2.1.toInt32 ≤ 11
      · have hf := pm_it hf c7
        exact pm_S3.trans (kpX16_isNamedFurther_b32 hf) K4
      · have hf := pm_ie hf c7
        exact pm_S3.trans (kpX16_isNamedFurther_b24 hf) K4
set_option maxHeartbeats 4000000 in
set_option maxRecDepth 100000 in
theorem klX16_localType {r : (Int32 × pm_H)} : ∀ n : Nat, (∀ (x0 : Nat) (x3 : Int64) (x6 : Int64) (x8 : Int64) (x10 : Int64) (h : pm_H), pm_iter sX16_localType n (x0, x3, x6, x8, x10, h) = some r → pm_S3 r.2 h) := by
  intro n
  induction n with
  | zero => exact fun _ _ _ _ _ _ hf => (by cases hf)
  | succ n ih =>
    refine fun x0 x3 x6 x8 x10 h hf => ?_
    obtain ⟨y, hf, hi⟩ := pm_iter_s hf
    have hf : tX16_localType_55 x0 x3 x6 x8 x10 h = some y := hf
    unfold tX16_localType_55 at hf
    have K0 := pm_S3.rf h
    by_cases c23 : x6 ≤ x10
    · have hf := pm_it hf c23
      cases hf
      cases hi
      exact K0
    · have hf := pm_ie hf c23
      obtain ⟨k24, hf⟩ := pm_if hf
      obtain ⟨v25, e26, hf⟩ := pm_bd hf
      have K27 := pm_S3.trans (kpX16_word e26) K0
      obtain ⟨k28, hf⟩ := pm_if hf
      obtain ⟨v29, e30, hf⟩ := pm_bd hf
      obtain ⟨k31, hf⟩ := pm_if hf
      obtain ⟨v32, e33, hf⟩ := pm_bd hf
      obtain ⟨y34, e35, hf⟩ := pm_lt hf
      by_cases c36 : (x8 + v25.1) ≤ x3
      · have hf := pm_it hf c36
        obtain ⟨y37, e38, hf⟩ := pm_lt hf
        obtain ⟨y39, e40, hf⟩ := pm_lt hf
        cases hf
        exact pm_S3.trans (ih x0 x3 x6 y37 y39 (pm_setI v25.2 x0 19 y34) hi) K27
      · have hf := pm_ie hf c36
        cases hf
        cases hi
        exact K27
set_option maxHeartbeats 4000000 in
set_option maxRecDepth 100000 in
theorem kpX16_localType {h : pm_H} {a0 : Nat} {p1 : Int32} {p2 : Int32} {p3 : Int64} {r : (Int32 × pm_H)} (hf : fX16_localType h a0 p1 p2 p3 = some r) : pm_S3 r.2 h := by
  unfold fX16_localType at hf
  have K0 := pm_S3.rf h
  obtain ⟨k1, hf⟩ := pm_if hf
  obtain ⟨v2, e3, hf⟩ := pm_bd hf
  obtain ⟨k4, hf⟩ := pm_if hf
  obtain ⟨v5, e6, hf⟩ := pm_bd hf
  obtain ⟨k7, hf⟩ := pm_if hf
  obtain ⟨u8, hf⟩ := pm_if hf
  obtain ⟨y9, e10, hf⟩ := pm_lt hf
  by_cases c11 : y9.toInt64 ≤ p3
  · have hf := pm_it hf c11
    obtain ⟨v12, e13, hf⟩ := pm_bd hf
    obtain ⟨k14, hf⟩ := pm_if hf
    obtain ⟨u15, hf⟩ := pm_if hf
    obtain ⟨y16, e17, hf⟩ := pm_lt hf
    obtain ⟨v18, e19, hf⟩ := pm_bd hf
    have K20 := pm_S3.trans (kpX16_word e19) K0
    obtain ⟨n, hn⟩ := pm_lim_iter hf
    exact pm_S3.trans ((klX16_localType n) a0 p3 v18.1 y9.toInt64 0 v18.2 hn) K20
  · have hf := pm_ie hf c11
    obtain ⟨v21, e22, hf⟩ := pm_bd hf
    cases hf
    exact K0
set_option maxHeartbeats 4000000 in
set_option maxRecDepth 100000 in
theorem kpX16_long64 {h : pm_H} {a0 : Nat} {p1 : Int32} {p2 : Int64} {p3 : Int64} {r : (Int64 × pm_H)} (hf : fX16_long64 h a0 p1 p2 p3 = some r) : pm_S3 r.2 h := by
  unfold fX16_long64 at hf
  have K0 := pm_S3.rf h
  obtain ⟨y1, e2, hf⟩ := pm_lt hf
  by_cases c3 : p1 = 0
  · have hf := pm_it hf c3
    obtain ⟨v4, e5, hf⟩ := pm_bd hf
    cases hf
    exact K0
  have hf := pm_ie hf c3
  by_cases c6 : p1 = 1
  · have hf := pm_it hf c6
    obtain ⟨v7, e8, hf⟩ := pm_bd hf
    cases hf
    exact K0
  have hf := pm_ie hf c6
  by_cases c9 : p1 = 2
  · have hf := pm_it hf c9
    obtain ⟨v10, e11, hf⟩ := pm_bd hf
    cases hf
    exact K0
  have hf := pm_ie hf c9
  by_cases c12 : p1 = 3
  · have hf := pm_it hf c12
    obtain ⟨v13, e14, hf⟩ := pm_lt hf
    cases hf
    exact K0
  have hf := pm_ie hf c12
  by_cases c15 : p1 = 4
  · have hf := pm_it hf c15
    obtain ⟨v16, e17, hf⟩ := pm_lt hf
    cases hf
    exact K0
  have hf := pm_ie hf c15
  by_cases c18 : p1 = 5
  · have hf := pm_it hf c18
    obtain ⟨v19, e20, hf⟩ := pm_lt hf
    cases hf
    exact K0
  have hf := pm_ie hf c18
  by_cases c21 : p1 = 6
  · have hf := pm_it hf c21
    obtain ⟨k22, hf⟩ := pm_if hf
    obtain ⟨v23, e24, hf⟩ := pm_bd hf
    have K25 := pm_S3.trans (kpX16_divided e24) K0
    cases hf
    exact K25
  have hf := pm_ie hf c21
  by_cases c26 : p1 = 7
  · have hf := pm_it hf c26
    obtain ⟨k27, hf⟩ := pm_if hf
    obtain ⟨v28, e29, hf⟩ := pm_bd hf
    have K30 := pm_S3.trans (kpX16_divided e29) K0
    cases hf
    exact K30
  have hf := pm_ie hf c26
  by_cases c31 : p1 = 8
  · have hf := pm_it hf c31
    obtain ⟨k32, hf⟩ := pm_if hf
    obtain ⟨v33, e34, hf⟩ := pm_bd hf
    have K35 := pm_S3.trans (kpX16_divided e34) K0
    cases hf
    exact K35
  have hf := pm_ie hf c31
  by_cases c36 : p1 = 9
  · have hf := pm_it hf c36
    obtain ⟨k37, hf⟩ := pm_if hf
    obtain ⟨v38, e39, hf⟩ := pm_bd hf
    have K40 := pm_S3.trans (kpX16_divided e39) K0
    cases hf
    exact K40
  have hf := pm_ie hf c36
  by_cases c41 : p1 = 10
  · have hf := pm_it hf c41
    obtain ⟨v42, e43, hf⟩ := pm_lt hf
    cases hf
    exact K0
  have hf := pm_ie hf c41
  by_cases c44 : p1 = 11
  · have hf := pm_it hf c44
    obtain ⟨v45, e46, hf⟩ := pm_lt hf
    cases hf
    exact K0
  have hf := pm_ie hf c44
  by_cases c47 : p1 = 12
  · have hf := pm_it hf c47
    obtain ⟨v48, e49, hf⟩ := pm_lt hf
    cases hf
    exact K0
  have hf := pm_ie hf c47
  by_cases c50 : p1 = 13
  · have hf := pm_it hf c50
    cases hf
    exact K0
  have hf := pm_ie hf c50
  by_cases c51 : p1 = 14
  · have hf := pm_it hf c51
    cases hf
    exact K0
  have hf := pm_ie hf c51
  by_cases c52 : p1 = 15
  · have hf := pm_it hf c52
    cases hf
    exact K0
  have hf := pm_ie hf c52
  by_cases c53 : p1 = 16
  · have hf := pm_it hf c53
    by_cases c54 : y1 = 0
    · have hf := pm_it hf c54
      cases hf
      exact K0
    · have hf := pm_ie hf c54
      cases hf
      exact K0
  have hf := pm_ie hf c53
  by_cases c55 : p1 = 17
  · have hf := pm_it hf c55
    by_cases c56 : y1 = 0
    · have hf := pm_it hf c56
      cases hf
      exact K0
    · have hf := pm_ie hf c56
      cases hf
      exact K0
  have hf := pm_ie hf c55
  obtain ⟨v57, e58, hf⟩ := pm_lt hf
  cases hf
  exact K0
set_option maxHeartbeats 4000000 in
set_option maxRecDepth 100000 in
theorem kpX16_moves {h : pm_H} {a0 : Nat} {p1 : Int32} {r : pm_H} (hf : fX16_moves h a0 p1 = some r) : pm_S3 r h := by
  unfold fX16_moves at hf
  have K0 := pm_S3.rf h
  obtain ⟨k1, hf⟩ := pm_if hf
  obtain ⟨v2, e3, hf⟩ := pm_bd hf
  have K4 := pm_S3.trans (kpX16_word e3) K0
  obtain ⟨k5, hf⟩ := pm_if hf
  obtain ⟨v6, e7, hf⟩ := pm_bd hf
  obtain ⟨y8, e9, hf⟩ := pm_lt hf
  obtain ⟨k10, hf⟩ := pm_if hf
  obtain ⟨u11, hf⟩ := pm_if hf
  obtain ⟨y12, e13, hf⟩ := pm_lt hf
  by_cases c14 : p1 = 32
  · have hf := pm_it hf c14
    obtain ⟨v15, e16, hf⟩ := pm_bd hf
    obtain ⟨k17, hf⟩ := pm_if hf
    obtain ⟨u18, hf⟩ := pm_if hf
    obtain ⟨v19, e20, hf⟩ := pm_bd hf
    have K21 := pm_S3.trans (kpX16_push e20) K4
    cases hf
    exact K21
  have hf := pm_ie hf c14
  by_cases c22 : p1 = 33
  · have hf := pm_it hf c22
    obtain ⟨v23, e24, hf⟩ := pm_bd hf
    obtain ⟨v25, e26, hf⟩ := pm_bd hf
    have K27 := pm_S3.trans (kpX16_pop e26) K4
    obtain ⟨k28, hf⟩ := pm_if hf
    obtain ⟨u29, hf⟩ := pm_if hf
    cases hf
    exact K27
  have hf := pm_ie hf c22
  by_cases c30 : p1 = 34
  · have hf := pm_it hf c30
    obtain ⟨v31, e32, hf⟩ := pm_bd hf
    obtain ⟨y33, e34, hf⟩ := pm_lt hf
    obtain ⟨k35, hf⟩ := pm_if hf
    obtain ⟨u36, hf⟩ := pm_if hf
    obtain ⟨y37, e38, hf⟩ := pm_lt hf
    obtain ⟨u39, hf⟩ := pm_if hf
    cases hf
    exact K4
  have hf := pm_ie hf c30
  by_cases c40 : p1 = 35
  · have hf := pm_it hf c40
    obtain ⟨v41, e42, hf⟩ := pm_bd hf
    obtain ⟨v43, e44, hf⟩ := pm_bd hf
    obtain ⟨y45, e46, hf⟩ := pm_lt hf
    obtain ⟨k47, hf⟩ := pm_if hf
    obtain ⟨u48, hf⟩ := pm_if hf
    obtain ⟨y49, e50, hf⟩ := pm_lt hf
    obtain ⟨k51, hf⟩ := pm_if hf
    obtain ⟨u52, hf⟩ := pm_if hf
    obtain ⟨v53, e54, hf⟩ := pm_bd hf
    have K55 := pm_S3.trans (kpX16_push e54) K4
    cases hf
    exact K55
  have hf := pm_ie hf c40
  by_cases c56 : p1 = 36
  · have hf := pm_it hf c56
    obtain ⟨v57, e58, hf⟩ := pm_bd hf
    obtain ⟨v59, e60, hf⟩ := pm_bd hf
    obtain ⟨y61, e62, hf⟩ := pm_lt hf
    obtain ⟨k63, hf⟩ := pm_if hf
    obtain ⟨u64, hf⟩ := pm_if hf
    obtain ⟨v65, e66, hf⟩ := pm_bd hf
    have K67 := pm_S3.trans (kpX16_pop e66) K4
    obtain ⟨k68, hf⟩ := pm_if hf
    obtain ⟨u69, hf⟩ := pm_if hf
    cases hf
    exact K67
  have hf := pm_ie hf c56
  obtain ⟨v70, e71, hf⟩ := pm_bd hf
  obtain ⟨y72, e73, hf⟩ := pm_lt hf
  obtain ⟨k74, hf⟩ := pm_if hf
  obtain ⟨u75, hf⟩ := pm_if hf
  obtain ⟨v76, e77, hf⟩ := pm_bd hf
  have K78 := pm_S3.trans (kpX16_entry e77) K4
  cases hf
  exact K78
set_option maxHeartbeats 4000000 in
set_option maxRecDepth 100000 in
theorem kpX16_offer_b70 {h : pm_H} {x0 : Nat} {x1 : Int32} {x2 : Int32} {x3 : Int32} {s0 : Int32} {s1 : Int32} {s2 : Nat} {r : (Int32 × pm_H)} (hf : fX16_offer_b70 h x0 x1 x2 x3 s0 s1 s2 = some r) : pm_S3 r.2 h := by
  unfold fX16_offer_b70 at hf
  have K0 := pm_S3.rf h
  obtain ⟨k16, hf⟩ := pm_if hf
  obtain ⟨u17, hf⟩ := pm_if hf
  obtain ⟨k18, hf⟩ := pm_if hf
  obtain ⟨v19, e20, hf⟩ := pm_bd hf
  by_cases c21 : x3 = 0
  · have hf := pm_it hf c21
    obtain ⟨v22, e23, hf⟩ := pm_bd hf
    obtain ⟨k24, hf⟩ := pm_if hf
    obtain ⟨u25, hf⟩ := pm_if hf
    obtain ⟨y26, e27, hf⟩ := pm_lt hf
    cases hf
    exact K0
  · have hf := pm_ie hf c21
    obtain ⟨k28, hf⟩ := pm_if hf
    obtain ⟨u29, hf⟩ := pm_if hf
    obtain ⟨y30, e31, hf⟩ := pm_lt hf
    cases hf
    exact K0
set_option maxHeartbeats 4000000 in
set_option maxRecDepth 100000 in
theorem kpX16_offer_b48 {h : pm_H} {x0 : Nat} {x1 : Int32} {x2 : Int32} {x3 : Int32} {r : (Int32 × pm_H)} (hf : fX16_offer_b48 h x0 x1 x2 x3 = some r) : pm_S3 r.2 h := by
  unfold fX16_offer_b48 at hf
  have K0 := pm_S3.rf h
  obtain ⟨k10, hf⟩ := pm_if hf
  obtain ⟨v11, e12, hf⟩ := pm_bd hf
  by_cases c13 : x3 = 0
  · have hf := pm_it hf c13
    obtain ⟨v14, e15, hf⟩ := pm_bd hf
    exact pm_S3.trans (kpX16_offer_b70 hf) K0
  · have hf := pm_ie hf c13
    exact pm_S3.trans (kpX16_offer_b70 hf) K0
set_option maxHeartbeats 4000000 in
set_option maxRecDepth 100000 in
theorem kpX16_offer_b10 {h : pm_H} {x0 : Nat} {x1 : Int32} {x2 : Int32} {s0 : Int32} {r : (Int32 × pm_H)} (hf : fX16_offer_b10 h x0 x1 x2 s0 = some r) : pm_S3 r.2 h := by
  unfold fX16_offer_b10 at hf
  have K0 := pm_S3.rf h
  obtain ⟨k2, hf⟩ := pm_if hf
  by_cases c3 : (pm_I h x0 73) = 64
  · have hf := pm_it hf c3
    cases hf
    exact K0
  · have hf := pm_ie hf c3
    by_cases c4 : s0 = 0
    · have hf := pm_it hf c4
      obtain ⟨v5, e6, hf⟩ := pm_bd hf
      by_cases c7 : v5 = 0
      · have hf := pm_it hf c7
        cases hf
        exact K0
      · have hf := pm_ie hf c7
        exact pm_S3.trans (kpX16_offer_b48 hf) K0
    · have hf := pm_ie hf c4
      by_cases c8 : x2 < 0
      · have hf := pm_it hf c8
        cases hf
        exact K0
      · have hf := pm_ie hf c8
        by_cases c9 : x2 ≤ 63
        · have hf := pm_it hf c9
          exact pm_S3.trans (kpX16_offer_b48 hf) K0
        · have hf := pm_ie hf c9
          cases hf
          exact K0
set_option maxHeartbeats 4000000 in
set_option maxRecDepth 100000 in
theorem kpX16_offer {h : pm_H} {a0 : Nat} {p1 : Int32} {p2 : Int32} {r : (Int32 × pm_H)} (hf : fX16_offer h a0 p1 p2 = some r) : pm_S3 r.2 h := by
  unfold fX16_offer at hf
  have K0 := pm_S3.rf h
  by_cases c1 : p1 = (-1)
  · have hf := pm_it hf c1
    exact pm_S3.trans (kpX16_offer_b10 hf) K0
  · have hf := pm_ie hf c1
    exact pm_S3.trans (kpX16_offer_b10 hf) K0
set_option maxHeartbeats 4000000 in
set_option maxRecDepth 100000 in
theorem kpX16_opensBlock_b52 {h : pm_H} {x0 : Nat} {x1 : Int32} {x3 : Int64} {s0 : Int32} {s1 : Nat} {r : pm_H} (hf : fX16_opensBlock_b52 h x0 x1 x3 s0 s1 = some r) : pm_S3 r h := by
  unfold fX16_opensBlock_b52 at hf
  have K0 := pm_S3.rf h
  by_cases c22 : x1 = 3
  · have hf := pm_it hf c22
    obtain ⟨k23, hf⟩ := pm_if hf
    obtain ⟨v24, e25, hf⟩ := pm_bd hf
    obtain ⟨v26, e27, hf⟩ := pm_bd hf
    by_cases c28 : x1 = 3
    · have hf := pm_it hf c28
      obtain ⟨k29, hf⟩ := pm_if hf
      obtain ⟨v30, e31, hf⟩ := pm_bd hf
      have K32 := pm_S3.trans (kpX16_opens e31) K0
      cases hf
      exact K32
    · have hf := pm_ie hf c28
      obtain ⟨k33, hf⟩ := pm_if hf
      obtain ⟨v34, e35, hf⟩ := pm_bd hf
      have K36 := pm_S3.trans (kpX16_opens e35) K0
      cases hf
      exact K36
  · have hf := pm_ie hf c22
    obtain ⟨k37, hf⟩ := pm_if hf
    obtain ⟨v38, e39, hf⟩ := pm_bd hf
    obtain ⟨v40, e41, hf⟩ := pm_bd hf
    by_cases c42 : x1 = 3
    · have hf := pm_it hf c42
      obtain ⟨k43, hf⟩ := pm_if hf
      obtain ⟨v44, e45, hf⟩ := pm_bd hf
      have K46 := pm_S3.trans (kpX16_opens e45) K0
      cases hf
      exact K46
    · have hf := pm_ie hf c42
      obtain ⟨k47, hf⟩ := pm_if hf
      obtain ⟨v48, e49, hf⟩ := pm_bd hf
      have K50 := pm_S3.trans (kpX16_opens e49) K0
      cases hf
      exact K50
set_option maxHeartbeats 4000000 in
set_option maxRecDepth 100000 in
theorem kpX16_opensBlock {h : pm_H} {a0 : Nat} {p1 : Int32} {r : pm_H} (hf : fX16_opensBlock h a0 p1 = some r) : pm_S3 r h := by
  unfold fX16_opensBlock at hf
  have K0 := pm_S3.rf h
  obtain ⟨k1, hf⟩ := pm_if hf
  obtain ⟨v2, e3, hf⟩ := pm_bd hf
  obtain ⟨k4, hf⟩ := pm_if hf
  obtain ⟨v5, e6, hf⟩ := pm_bd hf
  obtain ⟨y7, e8, hf⟩ := pm_lt hf
  obtain ⟨k9, hf⟩ := pm_if hf
  obtain ⟨u10, hf⟩ := pm_if hf
  obtain ⟨y11, e12, hf⟩ := pm_lt hf
  obtain ⟨y13, e14, hf⟩ := pm_lt hf
  obtain ⟨v15, e16, hf⟩ := pm_bd hf
  have K17 := pm_S3.trans (kpX16_blockWord e16) K0
  obtain ⟨k18, hf⟩ := pm_if hf
  obtain ⟨y19, e20, hf⟩ := pm_lt hf
  by_cases c21 : p1 = 3
  · have hf := pm_it hf c21
    exact pm_S3.trans (kpX16_opensBlock_b52 hf) K17
  · have hf := pm_ie hf c21
    exact pm_S3.trans (kpX16_opensBlock_b52 hf) K17
set_option maxHeartbeats 4000000 in
set_option maxRecDepth 100000 in
theorem kpX16_opensIf_b19 {h : pm_H} {x0 : Nat} {x1 : Int32} {x2 : Int64} {s0 : Int32} {r : pm_H} (hf : fX16_opensIf_b19 h x0 x1 x2 s0 = some r) : pm_S3 r h := by
  unfold fX16_opensIf_b19 at hf
  have K0 := pm_S3.rf h
  obtain ⟨k10, hf⟩ := pm_if hf
  obtain ⟨v11, e12, hf⟩ := pm_bd hf
  obtain ⟨k13, hf⟩ := pm_if hf
  obtain ⟨v14, e15, hf⟩ := pm_bd hf
  obtain ⟨k16, hf⟩ := pm_if hf
  obtain ⟨u17, hf⟩ := pm_if hf
  obtain ⟨v18, e19, hf⟩ := pm_bd hf
  obtain ⟨v20, e21, hf⟩ := pm_bd hf
  obtain ⟨v22, e23, hf⟩ := pm_bd hf
  have K24 := pm_S3.trans (kpX16_opens e23) K0
  by_cases c25 : s0 = 0
  · have hf := pm_it hf c25
    obtain ⟨k26, hf⟩ := pm_if hf
    obtain ⟨v27, e28, hf⟩ := pm_bd hf
    obtain ⟨k29, hf⟩ := pm_if hf
    obtain ⟨v30, e31, hf⟩ := pm_bd hf
    obtain ⟨k32, hf⟩ := pm_if hf
    obtain ⟨u33, hf⟩ := pm_if hf
    by_cases c34 : (pm_I v22 v30 x1.toNatClampNeg) ≤ 0
    · have hf := pm_it hf c34
      obtain ⟨v35, e36, hf⟩ := pm_bd hf
      obtain ⟨k37, hf⟩ := pm_if hf
      obtain ⟨u38, hf⟩ := pm_if hf
      obtain ⟨y39, e40, hf⟩ := pm_lt hf
      cases hf
      exact K24
    · have hf := pm_ie hf c34
      obtain ⟨u41, hf⟩ := pm_if hf
      obtain ⟨y42, e43, hf⟩ := pm_lt hf
      cases hf
      exact K24
  · have hf := pm_ie hf c25
    cases hf
    exact K24
set_option maxHeartbeats 4000000 in
set_option maxRecDepth 100000 in
theorem kpX16_opensIf {h : pm_H} {a0 : Nat} {p1 : Int32} {r : pm_H} (hf : fX16_opensIf h a0 p1 = some r) : pm_S3 r h := by
  unfold fX16_opensIf at hf
  have K0 := pm_S3.rf h
  obtain ⟨k1, hf⟩ := pm_if hf
  obtain ⟨v2, e3, hf⟩ := pm_bd hf
  have K4 := pm_S3.trans (kpX16_blockWord e3) K0
  obtain ⟨k5, hf⟩ := pm_if hf
  obtain ⟨v6, e7, hf⟩ := pm_bd hf
  have K8 := pm_S3.trans (kpX16_pop e7) K4
  by_cases c9 : v6.1 = 0
  · have hf := pm_it hf c9
    exact pm_S3.trans (kpX16_opensIf_b19 hf) K8
  · have hf := pm_ie hf c9
    exact pm_S3.trans (kpX16_opensIf_b19 hf) K8
set_option maxHeartbeats 4000000 in
set_option maxRecDepth 100000 in
theorem kpX16_others_b101 {h : pm_H} {x0 : Nat} {x2 : Int32} {x3 : Int32} {x4 : Int64} {s0 : Int32} {r : pm_H} (hf : fX16_others_b101 h x0 x2 x3 x4 s0 = some r) : pm_S3 r h := by
  unfold fX16_others_b101 at hf
  have K0 := pm_S3.rf h
  by_cases c137 : s0 = 0
  · have hf := pm_it hf c137
    by_cases c138 : s0 = 0
    · have hf := pm_it hf c138
      obtain ⟨k139, hf⟩ := pm_if hf
      obtain ⟨v140, e141, hf⟩ := pm_bd hf
      have K142 := pm_S3.trans (kpX16_push e141) K0
      cases hf
      exact K142
    · have hf := pm_ie hf c138
      obtain ⟨k143, hf⟩ := pm_if hf
      obtain ⟨v144, e145, hf⟩ := pm_bd hf
      have K146 := pm_S3.trans (kpX16_push e145) K0
      cases hf
      exact K146
  · have hf := pm_ie hf c137
    obtain ⟨k147, hf⟩ := pm_if hf
    obtain ⟨v148, e149, hf⟩ := pm_bd hf
    have K150 := pm_S3.trans (kpX16_growsPages e149) K0
    by_cases c151 : s0 = 0
    · have hf := pm_it hf c151
      obtain ⟨k152, hf⟩ := pm_if hf
      obtain ⟨v153, e154, hf⟩ := pm_bd hf
      have K155 := pm_S3.trans (kpX16_push e154) K150
      cases hf
      exact K155
    · have hf := pm_ie hf c151
      obtain ⟨k156, hf⟩ := pm_if hf
      obtain ⟨v157, e158, hf⟩ := pm_bd hf
      have K159 := pm_S3.trans (kpX16_push e158) K150
      cases hf
      exact K159
set_option maxHeartbeats 4000000 in
set_option maxRecDepth 100000 in
theorem kpX16_others_b100 {h : pm_H} {x0 : Nat} {x2 : Int32} {x3 : Int32} {x4 : Int64} {r : pm_H} (hf : fX16_others_b100 h x0 x2 x3 x4 = some r) : pm_S3 r h := by
  unfold fX16_others_b100 at hf
  have K0 := pm_S3.rf h
  exact pm_S3.trans (kpX16_others_b101 hf) K0
set_option maxHeartbeats 4000000 in
set_option maxRecDepth 100000 in
theorem kpX16_others_b72 {h : pm_H} {x0 : Nat} {x2 : Int32} {x3 : Int32} {x4 : Int64} {s0 : Int64} {r : pm_H} (hf : fX16_others_b72 h x0 x2 x3 x4 s0 = some r) : pm_S3 r h := by
  unfold fX16_others_b72 at hf
  have K0 := pm_S3.rf h
  by_cases c134 : s0 < (x3.toInt64 + x4)
  · have hf := pm_it hf c134
    exact pm_S3.trans (kpX16_others_b100 hf) K0
  · have hf := pm_ie hf c134
    obtain ⟨k135, hf⟩ := pm_if hf
    by_cases c136 : ((pm_I h x0 53).toInt64) < x4
    · have hf := pm_it hf c136
      exact pm_S3.trans (kpX16_others_b100 hf) K0
    · have hf := pm_ie hf c136
      exact pm_S3.trans (kpX16_others_b101 hf) K0
set_option maxHeartbeats 4000000 in
set_option maxRecDepth 100000 in
theorem kpX16_others_b47 {h : pm_H} {x0 : Nat} {x2 : Int32} {x3 : Int32} {s0 : Int64} {r : pm_H} (hf : fX16_others_b47 h x0 x2 x3 s0 = some r) : pm_S3 r h := by
  unfold fX16_others_b47 at hf
  have K0 := pm_S3.rf h
  obtain ⟨k127, hf⟩ := pm_if hf
  obtain ⟨v128, e129, hf⟩ := pm_bd hf
  obtain ⟨k130, hf⟩ := pm_if hf
  obtain ⟨u131, hf⟩ := pm_if hf
  by_cases c132 : 0 ≤ (pm_L h v128 x2.toNatClampNeg)
  · have hf := pm_it hf c132
    obtain ⟨u133, hf⟩ := pm_if hf
    exact pm_S3.trans (kpX16_others_b72 hf) K0
  · have hf := pm_ie hf c132
    exact pm_S3.trans (kpX16_others_b72 hf) K0
set_option maxHeartbeats 4000000 in
set_option maxRecDepth 100000 in
theorem kpX16_others_b12 {h : pm_H} {x0 : Nat} {x1 : Int32} {r : pm_H} (hf : fX16_others_b12 h x0 x1 = some r) : pm_S3 r h := by
  unfold fX16_others_b12 at hf
  have K0 := pm_S3.rf h
  obtain ⟨k108, hf⟩ := pm_if hf
  obtain ⟨v109, e110, hf⟩ := pm_bd hf
  obtain ⟨y111, e112, hf⟩ := pm_lt hf
  obtain ⟨k113, hf⟩ := pm_if hf
  obtain ⟨u114, hf⟩ := pm_if hf
  obtain ⟨y115, e116, hf⟩ := pm_lt hf
  obtain ⟨v117, e118, hf⟩ := pm_bd hf
  obtain ⟨k119, hf⟩ := pm_if hf
  obtain ⟨u120, hf⟩ := pm_if hf
  obtain ⟨y121, e122, hf⟩ := pm_lt hf
  by_cases c123 : x1 = 63
  · have hf := pm_it hf c123
    exact pm_S3.trans (kpX16_others_b47 hf) K0
  · have hf := pm_ie hf c123
    obtain ⟨v124, e125, hf⟩ := pm_bd hf
    have K126 := pm_S3.trans (kpX16_pop e125) K0
    exact pm_S3.trans (kpX16_others_b47 hf) K126
set_option maxHeartbeats 4000000 in
set_option maxRecDepth 100000 in
theorem kpX16_others {h : pm_H} {a0 : Nat} {p1 : Int32} {r : pm_H} (hf : fX16_others h a0 p1 = some r) : pm_S3 r h := by
  unfold fX16_others at hf
  have K0 := pm_S3.rf h
  by_cases c1 : p1 = 63
  · have hf := pm_it hf c1
    exact pm_S3.trans (kpX16_others_b12 hf) K0
  · have hf := pm_ie hf c1
    by_cases c2 : p1 = 64
    · have hf := pm_it hf c2
      exact pm_S3.trans (kpX16_others_b12 hf) K0
    · have hf := pm_ie hf c2
      by_cases c3 : p1 = 65
      · have hf := pm_it hf c3
        by_cases c4 : p1 = 65
        · have hf := pm_it hf c4
          obtain ⟨k5, hf⟩ := pm_if hf
          obtain ⟨v6, e7, hf⟩ := pm_bd hf
          have K8 := pm_S3.trans (kpX16_signedWord e7) K0
          obtain ⟨k9, hf⟩ := pm_if hf
          obtain ⟨v10, e11, hf⟩ := pm_bd hf
          have K12 := pm_S3.trans (kpX16_push e11) K8
          cases hf
          exact K12
        · have hf := pm_ie hf c4
          obtain ⟨k13, hf⟩ := pm_if hf
          obtain ⟨v14, e15, hf⟩ := pm_bd hf
          have K16 := pm_S3.trans (kpX16_signedWord e15) K0
          obtain ⟨k17, hf⟩ := pm_if hf
          obtain ⟨v18, e19, hf⟩ := pm_bd hf
          have K20 := pm_S3.trans (kpX16_push e19) K16
          cases hf
          exact K20
      · have hf := pm_ie hf c3
        by_cases c21 : p1 = 66
        · have hf := pm_it hf c21
          by_cases c22 : p1 = 65
          · have hf := pm_it hf c22
            obtain ⟨k23, hf⟩ := pm_if hf
            obtain ⟨v24, e25, hf⟩ := pm_bd hf
            have K26 := pm_S3.trans (kpX16_signedWord e25) K0
            obtain ⟨k27, hf⟩ := pm_if hf
            obtain ⟨v28, e29, hf⟩ := pm_bd hf
            have K30 := pm_S3.trans (kpX16_push e29) K26
            cases hf
            exact K30
          · have hf := pm_ie hf c22
            obtain ⟨k31, hf⟩ := pm_if hf
            obtain ⟨v32, e33, hf⟩ := pm_bd hf
            have K34 := pm_S3.trans (kpX16_signedWord e33) K0
            obtain ⟨k35, hf⟩ := pm_if hf
            obtain ⟨v36, e37, hf⟩ := pm_bd hf
            have K38 := pm_S3.trans (kpX16_push e37) K34
            cases hf
            exact K38
        · have hf := pm_ie hf c21
          by_cases c39 : p1 = 67
          · have hf := pm_it hf c39
            by_cases c40 : p1 = 67
            · have hf := pm_it hf c40
              obtain ⟨k41, hf⟩ := pm_if hf
              obtain ⟨v42, e43, hf⟩ := pm_bd hf
              have K44 := pm_S3.trans (kpX16_bytesAt e43) K0
              obtain ⟨k45, hf⟩ := pm_if hf
              obtain ⟨v46, e47, hf⟩ := pm_bd hf
              have K48 := pm_S3.trans (kpX16_push e47) K44
              cases hf
              exact K48
            · have hf := pm_ie hf c40
              obtain ⟨k49, hf⟩ := pm_if hf
              obtain ⟨v50, e51, hf⟩ := pm_bd hf
              have K52 := pm_S3.trans (kpX16_bytesAt e51) K0
              obtain ⟨k53, hf⟩ := pm_if hf
              obtain ⟨v54, e55, hf⟩ := pm_bd hf
              have K56 := pm_S3.trans (kpX16_push e55) K52
              cases hf
              exact K56
          · have hf := pm_ie hf c39
            by_cases c57 : p1 = 68
            · have hf := pm_it hf c57
              by_cases c58 : p1 = 67
              · have hf := pm_it hf c58
                obtain ⟨k59, hf⟩ := pm_if hf
                obtain ⟨v60, e61, hf⟩ := pm_bd hf
                have K62 := pm_S3.trans (kpX16_bytesAt e61) K0
                obtain ⟨k63, hf⟩ := pm_if hf
                obtain ⟨v64, e65, hf⟩ := pm_bd hf
                have K66 := pm_S3.trans (kpX16_push e65) K62
                cases hf
                exact K66
              · have hf := pm_ie hf c58
                obtain ⟨k67, hf⟩ := pm_if hf
                obtain ⟨v68, e69, hf⟩ := pm_bd hf
                have K70 := pm_S3.trans (kpX16_bytesAt e69) K0
                obtain ⟨k71, hf⟩ := pm_if hf
                obtain ⟨v72, e73, hf⟩ := pm_bd hf
                have K74 := pm_S3.trans (kpX16_push e73) K70
                cases hf
                exact K74
            · have hf := pm_ie hf c57
              by_cases c75 : p1 = 208
              · have hf := pm_it hf c75
                obtain ⟨k76, hf⟩ := pm_if hf
                obtain ⟨v77, e78, hf⟩ := pm_bd hf
                have K79 := pm_S3.trans (kpX16_push e78) K0
                cases hf
                exact K79
              · have hf := pm_ie hf c75
                by_cases c80 : p1 = 209
                · have hf := pm_it hf c80
                  obtain ⟨k81, hf⟩ := pm_if hf
                  obtain ⟨v82, e83, hf⟩ := pm_bd hf
                  have K84 := pm_S3.trans (kpX16_pop e83) K0
                  by_cases c85 : v82.1 = (-1)
                  · have hf := pm_it hf c85
                    obtain ⟨k86, hf⟩ := pm_if hf
                    obtain ⟨v87, e88, hf⟩ := pm_bd hf
                    have K89 := pm_S3.trans (kpX16_push e88) K84
                    cases hf
                    exact K89
                  · have hf := pm_ie hf c85
                    obtain ⟨k90, hf⟩ := pm_if hf
                    obtain ⟨v91, e92, hf⟩ := pm_bd hf
                    have K93 := pm_S3.trans (kpX16_push e92) K84
                    cases hf
                    exact K93
                · have hf := pm_ie hf c80
                  obtain ⟨k94, hf⟩ := pm_if hf
                  obtain ⟨v95, e96, hf⟩ := pm_bd hf
                  obtain ⟨v97, e98, hf⟩ := pm_bd hf
                  have K99 := pm_S3.trans (kpX16_word e98) K0
                  obtain ⟨y100, e101, hf⟩ := pm_lt hf
                  obtain ⟨k102, hf⟩ := pm_if hf
                  obtain ⟨u103, hf⟩ := pm_if hf
                  obtain ⟨k104, hf⟩ := pm_if hf
                  obtain ⟨v105, e106, hf⟩ := pm_bd hf
                  have K107 := pm_S3.trans (kpX16_push e106) K99
                  cases hf
                  exact K107
