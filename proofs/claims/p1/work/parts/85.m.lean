set_option maxHeartbeats 4000000 in
set_option maxRecDepth 100000 in
theorem klX16_ends {r : ((Nat × pm_H) ⊕ pm_H)} : ∀ n : Nat, (∀ (x0 : Nat) (x1 : Int32) (x2 : Int32) (x3 : Int64) (h : pm_H), pm_iter sX16_ends n (.inl (x0, x1, x2, x3, h)) = some r → pt_SV r h) ∧ (∀ (x0 : Nat) (x2 : Int32) (x3 : Int64) (x5 : Int32) (x6 : Int32) (h : pm_H), pm_iter sX16_ends n (.inr (.inl (x0, x2, x3, x5, x6, h))) = some r → pt_SV r h) ∧ (∀ (x0 : Nat) (x3 : Int64) (x5 : Int32) (h : pm_H), pm_iter sX16_ends n (.inr (.inr (x0, x3, x5, h))) = some r → pt_SV r h) := by
  intro n
  induction n with
  | zero => exact ⟨fun _ _ _ _ _ hf => (by cases hf), fun _ _ _ _ _ _ hf => (by cases hf), fun _ _ _ _ hf => (by cases hf)⟩
  | succ n ih =>
    refine ⟨fun x0 x1 x2 x3 h hf => ?_, ?_⟩
    · obtain ⟨y, hf, hi⟩ := pm_iter_s hf
      have hf : tX16_ends_42 x0 x1 x2 x3 h = some y := hf
      unfold tX16_ends_42 at hf
      have K0 := pm_S3.rf h
      by_cases c26 : x1 = 5
      · have hf := pm_it hf c26
        obtain ⟨k27, hf⟩ := pm_if hf
        obtain ⟨v28, e29, hf⟩ := pm_bd hf
        obtain ⟨k30, hf⟩ := pm_if hf
        obtain ⟨u31, hf⟩ := pm_if hf
        obtain ⟨v32, e33, hf⟩ := pm_bd hf
        obtain ⟨k34, hf⟩ := pm_if hf
        obtain ⟨u35, hf⟩ := pm_if hf
        obtain ⟨v36, e37, hf⟩ := pm_bd hf
        rcases v36 with z39 | w38
        · have hf := pt_sl hf
          cases hf
          cases hi
          exact pm_S3.trans (show pm_S3 z39.2 _ from kpX16_putParameters e37) K0
        have K40 := pm_S3.trans (show pm_S3 w38 _ from kpX16_putParameters e37) K0
        have hf := pt_sr hf
        cases hf
        cases hi
        exact K40
      · have hf := pm_ie hf c26
        obtain ⟨k41, hf⟩ := pm_if hf
        obtain ⟨v42, e43, hf⟩ := pm_bd hf
        obtain ⟨k44, hf⟩ := pm_if hf
        obtain ⟨u45, hf⟩ := pm_if hf
        by_cases c46 : (pm_I h v42 x2.toNatClampNeg) = 4
        · have hf := pm_it hf c46
          obtain ⟨v47, e48, hf⟩ := pm_bd hf
          obtain ⟨v49, e50, hf⟩ := pm_bd hf
          by_cases c51 : v47 = v49
          · have hf := pm_it hf c51
            cases hf
            exact pt_SV.trans (ih.2.1 x0 x2 x3 1 0 h hi) K0
          · have hf := pm_ie hf c51
            cases hf
            exact pt_SV.trans (ih.2.1 x0 x2 x3 0 0 h hi) K0
        · have hf := pm_ie hf c46
          cases hf
          exact pt_SV.trans (ih.2.1 x0 x2 x3 1 0 h hi) K0
    refine ⟨fun x0 x2 x3 x5 x6 h hf => ?_, ?_⟩
    · obtain ⟨y, hf, hi⟩ := pm_iter_s hf
      have hf : tX16_ends_100 x0 x2 x3 x5 x6 h = some y := hf
      unfold tX16_ends_100 at hf
      have K0 := pm_S3.rf h
      obtain ⟨k52, hf⟩ := pm_if hf
      obtain ⟨v53, e54, hf⟩ := pm_bd hf
      by_cases c55 : v53 ≤ x6
      · have hf := pm_it hf c55
        cases hf
        exact pt_SV.trans (ih.2.2 x0 x3 x5 h hi) K0
      · have hf := pm_ie hf c55
        by_cases c56 : x5 = 0
        · have hf := pm_it hf c56
          cases hf
          exact pt_SV.trans (ih.2.2 x0 x3 x5 h hi) K0
        · have hf := pm_ie hf c56
          obtain ⟨v57, e58, hf⟩ := pm_bd hf
          obtain ⟨k59, hf⟩ := pm_if hf
          obtain ⟨u60, hf⟩ := pm_if hf
          by_cases c61 : (pm_I h v57 x2.toNatClampNeg) = 4
          · have hf := pm_it hf c61
            obtain ⟨v62, e63, hf⟩ := pm_bd hf
            obtain ⟨v64, e65, hf⟩ := pm_bd hf
            by_cases c66 : v62 = v64
            · have hf := pm_it hf c66
              obtain ⟨y67, e68, hf⟩ := pm_lt hf
              cases hf
              exact pt_SV.trans (ih.2.1 x0 x2 x3 1 y67 h hi) K0
            · have hf := pm_ie hf c66
              obtain ⟨y69, e70, hf⟩ := pm_lt hf
              cases hf
              exact pt_SV.trans (ih.2.1 x0 x2 x3 0 y69 h hi) K0
          · have hf := pm_ie hf c61
            cases hf
            exact pt_SV.trans (ih.2.2 x0 x3 x5 h hi) K0
    refine fun x0 x3 x5 h hf => ?_
    obtain ⟨y, hf, hi⟩ := pm_iter_s hf
    have hf : tX16_ends_155 x0 x3 x5 h = some y := hf
    unfold tX16_ends_155 at hf
    have K0 := pm_S3.rf h
    by_cases c71 : x5 = 0
    · have hf := pm_it hf c71
      obtain ⟨k72, hf⟩ := pm_if hf
      obtain ⟨v73, e74, hf⟩ := pm_bd hf
      rcases v73 with z76 | w75
      · have hf := pt_sl hf
        cases hf
        cases hi
        exact pm_S3.trans (show pm_S3 z76.2 _ from kpX16_stops e74) K0
      have K77 := pm_S3.trans (show pm_S3 w75 _ from kpX16_stops e74) K0
      have hf := pt_sr hf
      obtain ⟨k78, hf⟩ := pm_if hf
      obtain ⟨y79, e80, hf⟩ := pm_lt hf
      by_cases c81 : (pm_I (pm_setI w75 x0 24 y79) x0 24) ≤ 0
      · have hf := pm_it hf c81
        cases hf
        cases hi
        exact K77
      · have hf := pm_ie hf c81
        obtain ⟨v82, e83, hf⟩ := pm_bd hf
        rcases v82 with z85 | w84
        · have hf := pt_sl hf
          cases hf
          cases hi
          exact pm_S3.trans (show pm_S3 z85.2 _ from kpX16_putResults e83) K77
        have K86 := pm_S3.trans (show pm_S3 w84 _ from kpX16_putResults e83) K77
        have hf := pt_sr hf
        cases hf
        cases hi
        exact K86
    · have hf := pm_ie hf c71
      obtain ⟨k87, hf⟩ := pm_if hf
      obtain ⟨y88, e89, hf⟩ := pm_lt hf
      by_cases c90 : (pm_I (pm_setI h x0 24 y88) x0 24) ≤ 0
      · have hf := pm_it hf c90
        cases hf
        cases hi
        exact K0
      · have hf := pm_ie hf c90
        obtain ⟨v91, e92, hf⟩ := pm_bd hf
        rcases v91 with z94 | w93
        · have hf := pt_sl hf
          cases hf
          cases hi
          exact pm_S3.trans (show pm_S3 z94.2 _ from kpX16_putResults e92) K0
        have K95 := pm_S3.trans (show pm_S3 w93 _ from kpX16_putResults e92) K0
        have hf := pt_sr hf
        cases hf
        cases hi
        exact K95
set_option maxHeartbeats 4000000 in
set_option maxRecDepth 100000 in
theorem kpX16_ends {h : pm_H} {a0 : Nat} {p1 : Int32} {r : ((Nat × pm_H) ⊕ pm_H)} (hf : fX16_ends h a0 p1 = some r) : pt_SV r h := by
  unfold fX16_ends at hf
  have K0 := pm_S3.rf h
  obtain ⟨k1, hf⟩ := pm_if hf
  obtain ⟨y2, e3, hf⟩ := pm_lt hf
  obtain ⟨v4, e5, hf⟩ := pm_bd hf
  obtain ⟨k6, hf⟩ := pm_if hf
  obtain ⟨u7, hf⟩ := pm_if hf
  obtain ⟨y8, e9, hf⟩ := pm_lt hf
  obtain ⟨v10, e11, hf⟩ := pm_bd hf
  rcases v10 with z13 | w12
  · have hf := pt_kl hf
    cases hf
    exact pm_S3.trans (show pm_S3 z13.2 _ from kpX16_takeResults e11) K0
  have K14 := pm_S3.trans (show pm_S3 w12 _ from kpX16_takeResults e11) K0
  have hf := pt_kr hf
  obtain ⟨k15, hf⟩ := pm_if hf
  obtain ⟨v16, e17, hf⟩ := pm_bd hf
  obtain ⟨k18, hf⟩ := pm_if hf
  obtain ⟨u19, hf⟩ := pm_if hf
  by_cases c20 : (pm_I w12 a0 23) = (pm_I w12 v16 y2.toNatClampNeg)
  · have hf := pm_it hf c20
    obtain ⟨n, hn⟩ := pm_lim_iter hf
    exact pt_SV.trans ((klX16_ends n).1 a0 p1 y2 y8 w12 hn) K14
  · have hf := pm_ie hf c20
    obtain ⟨v21, e22, hf⟩ := pm_bd hf
    rcases v21 with z24 | w23
    · have hf := pt_kl hf
      cases hf
      exact pm_S3.trans (show pm_S3 z24.2 _ from kpX16_stops e22) K14
    have K25 := pm_S3.trans (show pm_S3 w23 _ from kpX16_stops e22) K14
    have hf := pt_kr hf
    obtain ⟨n, hn⟩ := pm_lim_iter hf
    exact pt_SV.trans ((klX16_ends n).1 a0 p1 y2 y8 w23 hn) K25
set_option maxHeartbeats 4000000 in
set_option maxRecDepth 100000 in
theorem kpX16_further_b123 {h : pm_H} {x0 : Nat} {x2 : Int64} {r : ((Nat × pm_H) ⊕ pm_H)} (hf : fX16_further_b123 h x0 x2 = some r) : pt_SV r h := by
  unfold fX16_further_b123 at hf
  have K0 := pm_S3.rf h
  by_cases c54 : x2 = 8
  · have hf := pm_it hf c54
    obtain ⟨k55, hf⟩ := pm_if hf
    obtain ⟨v56, e57, hf⟩ := pm_bd hf
    rcases v56 with z59 | w58
    · have hf := pt_kl hf
      cases hf
      exact pm_S3.trans (show pm_S3 z59.2 _ from kpX16_small e57) K0
    have K60 := pm_S3.trans (show pm_S3 w58.2 _ from kpX16_small e57) K0
    have hf := pt_kr hf
    cases hf
    exact K60
  · have hf := pm_ie hf c54
    by_cases c61 : x2 = 10
    · have hf := pm_it hf c61
      obtain ⟨k62, hf⟩ := pm_if hf
      obtain ⟨v63, e64, hf⟩ := pm_bd hf
      rcases v63 with z66 | w65
      · have hf := pt_kl hf
        cases hf
        exact pm_S3.trans (show pm_S3 z66.2 _ from kpX16_small e64) K0
      have K67 := pm_S3.trans (show pm_S3 w65.2 _ from kpX16_small e64) K0
      have hf := pt_kr hf
      cases hf
      exact K67
    · have hf := pm_ie hf c61
      by_cases c68 : x2 = 11
      · have hf := pm_it hf c68
        obtain ⟨k69, hf⟩ := pm_if hf
        obtain ⟨v70, e71, hf⟩ := pm_bd hf
        rcases v70 with z73 | w72
        · have hf := pt_kl hf
          cases hf
          exact pm_S3.trans (show pm_S3 z73.2 _ from kpX16_small e71) K0
        have K74 := pm_S3.trans (show pm_S3 w72.2 _ from kpX16_small e71) K0
        have hf := pt_kr hf
        cases hf
        exact K74
      · have hf := pm_ie hf c68
        cases hf
        exact K0
set_option maxHeartbeats 4000000 in
set_option maxRecDepth 100000 in
theorem kpX16_further_b117 {h : pm_H} {x0 : Nat} {x2 : Int64} {r : ((Nat × pm_H) ⊕ pm_H)} (hf : fX16_further_b117 h x0 x2 = some r) : pt_SV r h := by
  unfold fX16_further_b117 at hf
  have K0 := pm_S3.rf h
  obtain ⟨k48, hf⟩ := pm_if hf
  obtain ⟨v49, e50, hf⟩ := pm_bd hf
  rcases v49 with z52 | w51
  · have hf := pt_kl hf
    cases hf
    exact pm_S3.trans (show pm_S3 z52.2 _ from kpX16_number e50) K0
  have K53 := pm_S3.trans (show pm_S3 w51.2 _ from kpX16_number e50) K0
  have hf := pt_kr hf
  exact pt_SV.trans (kpX16_further_b123 hf) K53
set_option maxHeartbeats 4000000 in
set_option maxRecDepth 100000 in
theorem kpX16_further_b93 {h : pm_H} {x0 : Nat} {x2 : Int64} {r : ((Nat × pm_H) ⊕ pm_H)} (hf : fX16_further_b93 h x0 x2 = some r) : pt_SV r h := by
  unfold fX16_further_b93 at hf
  have K0 := pm_S3.rf h
  by_cases c45 : x2 = 8
  · have hf := pm_it hf c45
    exact pt_SV.trans (kpX16_further_b117 hf) K0
  · have hf := pm_ie hf c45
    by_cases c46 : x2 = 9
    · have hf := pm_it hf c46
      exact pt_SV.trans (kpX16_further_b117 hf) K0
    · have hf := pm_ie hf c46
      by_cases c47 : x2 ≤ 11
      · have hf := pm_it hf c47
        exact pt_SV.trans (kpX16_further_b123 hf) K0
      · have hf := pm_ie hf c47
        exact pt_SV.trans (kpX16_further_b117 hf) K0
set_option maxHeartbeats 4000000 in
set_option maxRecDepth 100000 in
theorem kpX16_further_b87 {h : pm_H} {x0 : Nat} {x2 : Int64} {r : ((Nat × pm_H) ⊕ pm_H)} (hf : fX16_further_b87 h x0 x2 = some r) : pt_SV r h := by
  unfold fX16_further_b87 at hf
  have K0 := pm_S3.rf h
  obtain ⟨k39, hf⟩ := pm_if hf
  obtain ⟨v40, e41, hf⟩ := pm_bd hf
  rcases v40 with z43 | w42
  · have hf := pt_kl hf
    cases hf
    exact pm_S3.trans (show pm_S3 z43.2 _ from kpX16_number e41) K0
  have K44 := pm_S3.trans (show pm_S3 w42.2 _ from kpX16_number e41) K0
  have hf := pt_kr hf
  exact pt_SV.trans (kpX16_further_b93 hf) K44
set_option maxHeartbeats 4000000 in
set_option maxRecDepth 100000 in
theorem kpX16_further_b71 {h : pm_H} {x0 : Nat} {x2 : Int64} {r : ((Nat × pm_H) ⊕ pm_H)} (hf : fX16_further_b71 h x0 x2 = some r) : pt_SV r h := by
  unfold fX16_further_b71 at hf
  have K0 := pm_S3.rf h
  by_cases c37 : x2 = 12
  · have hf := pm_it hf c37
    exact pt_SV.trans (kpX16_further_b87 hf) K0
  · have hf := pm_ie hf c37
    by_cases c38 : x2 = 14
    · have hf := pm_it hf c38
      exact pt_SV.trans (kpX16_further_b87 hf) K0
    · have hf := pm_ie hf c38
      exact pt_SV.trans (kpX16_further_b93 hf) K0
set_option maxHeartbeats 4000000 in
set_option maxRecDepth 100000 in
theorem kpX16_further_b56 {h : pm_H} {x0 : Nat} {x2 : Int64} {r : ((Nat × pm_H) ⊕ pm_H)} (hf : fX16_further_b56 h x0 x2 = some r) : pt_SV r h := by
  unfold fX16_further_b56 at hf
  have K0 := pm_S3.rf h
  by_cases c30 : x2 = 10
  · have hf := pm_it hf c30
    obtain ⟨k31, hf⟩ := pm_if hf
    obtain ⟨v32, e33, hf⟩ := pm_bd hf
    rcases v32 with z35 | w34
    · have hf := pt_kl hf
      cases hf
      exact pm_S3.trans (show pm_S3 z35.2 _ from kpX16_small e33) K0
    have K36 := pm_S3.trans (show pm_S3 w34.2 _ from kpX16_small e33) K0
    have hf := pt_kr hf
    exact pt_SV.trans (kpX16_further_b71 hf) K36
  · have hf := pm_ie hf c30
    exact pt_SV.trans (kpX16_further_b71 hf) K0
set_option maxHeartbeats 4000000 in
set_option maxRecDepth 100000 in
theorem kpX16_further_b36 {h : pm_H} {x0 : Nat} {x1 : Int32} {x2 : Int64} {r : ((Nat × pm_H) ⊕ pm_H)} (hf : fX16_further_b36 h x0 x1 x2 = some r) : pt_SV r h := by
  unfold fX16_further_b36 at hf
  have K0 := pm_S3.rf h
  obtain ⟨k16, hf⟩ := pm_if hf
  obtain ⟨v17, e18, hf⟩ := pm_bd hf
  obtain ⟨k19, hf⟩ := pm_if hf
  obtain ⟨v20, e21, hf⟩ := pm_bd hf
  obtain ⟨k22, hf⟩ := pm_if hf
  obtain ⟨u23, hf⟩ := pm_if hf
  by_cases c24 : 0 ≤ (pm_I h v20 (12 : Int32).toNatClampNeg)
  · have hf := pm_it hf c24
    exact pt_SV.trans (kpX16_further_b56 hf) K0
  · have hf := pm_ie hf c24
    obtain ⟨v25, e26, hf⟩ := pm_bd hf
    rcases v25 with z28 | w27
    · have hf := pt_kl hf
      cases hf
      exact pm_S3.trans (show pm_S3 z28.2 _ from kpX16_stops e26) K0
    have K29 := pm_S3.trans (show pm_S3 w27 _ from kpX16_stops e26) K0
    have hf := pt_kr hf
    exact pt_SV.trans (kpX16_further_b56 hf) K29
set_option maxHeartbeats 4000000 in
set_option maxRecDepth 100000 in
theorem kpX16_further_b20 {h : pm_H} {x0 : Nat} {x1 : Int32} {x2 : Int64} {r : ((Nat × pm_H) ⊕ pm_H)} (hf : fX16_further_b20 h x0 x1 x2 = some r) : pt_SV r h := by
  unfold fX16_further_b20 at hf
  have K0 := pm_S3.rf h
  by_cases c14 : x2 = 8
  · have hf := pm_it hf c14
    exact pt_SV.trans (kpX16_further_b36 hf) K0
  · have hf := pm_ie hf c14
    by_cases c15 : x2 = 9
    · have hf := pm_it hf c15
      exact pt_SV.trans (kpX16_further_b36 hf) K0
    · have hf := pm_ie hf c15
      exact pt_SV.trans (kpX16_further_b56 hf) K0
set_option maxHeartbeats 4000000 in
set_option maxRecDepth 100000 in
theorem kpX16_further {h : pm_H} {a0 : Nat} {p1 : Int32} {r : ((Nat × pm_H) ⊕ pm_H)} (hf : fX16_further h a0 p1 = some r) : pt_SV r h := by
  unfold fX16_further at hf
  have K0 := pm_S3.rf h
  obtain ⟨k1, hf⟩ := pm_if hf
  obtain ⟨v2, e3, hf⟩ := pm_bd hf
  rcases v2 with z5 | w4
  · have hf := pt_kl hf
    cases hf
    exact pm_S3.trans (show pm_S3 z5.2 _ from kpX16_number e3) K0
  have K6 := pm_S3.trans (show pm_S3 w4.2 _ from kpX16_number e3) K0
  have hf := pt_kr hf
  by_cases c7 : w4.1 ≤ 17
  · have hf := pm_it hf c7
    exact pt_SV.trans (kpX16_further_b20 hf) K6
  · have hf := pm_ie hf c7
    obtain ⟨k8, hf⟩ := pm_if hf
    obtain ⟨v9, e10, hf⟩ := pm_bd hf
    rcases v9 with z12 | w11
    · have hf := pt_kl hf
      cases hf
      exact pm_S3.trans (show pm_S3 z12.2 _ from kpX16_stops e10) K6
    have K13 := pm_S3.trans (show pm_S3 w11 _ from kpX16_stops e10) K6
    have hf := pt_kr hf
    exact pt_SV.trans (kpX16_further_b20 hf) K13
set_option maxHeartbeats 4000000 in
set_option maxRecDepth 100000 in
theorem kpX16_limits {h : pm_H} {a0 : Nat} {r : ((Nat × pm_H) ⊕ pm_H)} (hf : fX16_limits h a0 = some r) : pt_SV r h := by
  unfold fX16_limits at hf
  have K0 := pm_S3.rf h
  obtain ⟨k1, hf⟩ := pm_if hf
  obtain ⟨v2, e3, hf⟩ := pm_bd hf
  rcases v2 with z5 | w4
  · have hf := pt_kl hf
    cases hf
    exact pm_S3.trans (show pm_S3 z5.2 _ from kpX16_small e3) K0
  have K6 := pm_S3.trans (show pm_S3 w4.2 _ from kpX16_small e3) K0
  have hf := pt_kr hf
  obtain ⟨k7, hf⟩ := pm_if hf
  obtain ⟨v8, e9, hf⟩ := pm_bd hf
  rcases v8 with z11 | w10
  · have hf := pt_kl hf
    cases hf
    exact pm_S3.trans (show pm_S3 z11.2 _ from kpX16_number e9) K6
  have K12 := pm_S3.trans (show pm_S3 w10.2 _ from kpX16_number e9) K6
  have hf := pt_kr hf
  obtain ⟨k13, hf⟩ := pm_if hf
  by_cases c14 : w4.1 = 1
  · have hf := pm_it hf c14
    obtain ⟨v15, e16, hf⟩ := pm_bd hf
    rcases v15 with z18 | w17
    · have hf := pt_kl hf
      cases hf
      exact pm_S3.trans (show pm_S3 z18.2 _ from kpX16_number e16) K12
    have K19 := pm_S3.trans (show pm_S3 w17.2 _ from kpX16_number e16) K12
    have hf := pt_kr hf
    obtain ⟨k20, hf⟩ := pm_if hf
    cases hf
    exact K19
  · have hf := pm_ie hf c14
    cases hf
    exact K12
set_option maxHeartbeats 4000000 in
set_option maxRecDepth 100000 in
theorem klX16_name {r : ((Nat × pm_H) ⊕ pm_H)} : ∀ n : Nat, (∀ (x0 : Nat) (x1 : Int64) (x3 : Int64) (h : pm_H), pm_iter sX16_name n (.inl (x0, x1, x3, h)) = some r → pt_SV r h) ∧ (∀ (x0 : Nat) (x3 : Int32) (h : pm_H), pm_iter sX16_name n (.inr (x0, x3, h)) = some r → pt_SV r h) := by
  intro n
  induction n with
  | zero => exact ⟨fun _ _ _ _ hf => (by cases hf), fun _ _ _ hf => (by cases hf)⟩
  | succ n ih =>
    refine ⟨fun x0 x1 x3 h hf => ?_, ?_⟩
    · obtain ⟨y, hf, hi⟩ := pm_iter_s hf
      have hf : tX16_name_15 x0 x1 x3 h = some y := hf
      unfold tX16_name_15 at hf
      have K0 := pm_S3.rf h
      by_cases c10 : x1 ≤ x3
      · have hf := pm_it hf c10
        obtain ⟨k11, hf⟩ := pm_if hf
        obtain ⟨y12, e13, hf⟩ := pm_lt hf
        cases hf
        exact pt_SV.trans (ih.2 x0 y12 h hi) K0
      · have hf := pm_ie hf c10
        obtain ⟨k14, hf⟩ := pm_if hf
        obtain ⟨v15, e16, hf⟩ := pm_bd hf
        rcases v15 with z18 | w17
        · have hf := pt_sl hf
          cases hf
          cases hi
          exact pm_S3.trans (show pm_S3 z18.2 _ from kpX16_next e16) K0
        have K19 := pm_S3.trans (show pm_S3 w17.2 _ from kpX16_next e16) K0
        have hf := pt_sr hf
        obtain ⟨y20, e21, hf⟩ := pm_lt hf
        cases hf
        exact pt_SV.trans (ih.1 x0 x1 y20 w17.2 hi) K19
    refine fun x0 x3 h hf => ?_
    obtain ⟨y, hf, hi⟩ := pm_iter_s hf
    have hf : tX16_name_39 x0 x3 h = some y := hf
    unfold tX16_name_39 at hf
    have K0 := pm_S3.rf h
    obtain ⟨k22, hf⟩ := pm_if hf
    by_cases c23 : (pm_I h x0 11) ≤ x3
    · have hf := pm_it hf c23
      cases hf
      cases hi
      exact K0
    · have hf := pm_ie hf c23
      obtain ⟨v24, e25, hf⟩ := pm_bd hf
      rcases v24 with z27 | w26
      · have hf := pt_sl hf
        cases hf
        cases hi
        exact pm_S3.trans (show pm_S3 z27.2 _ from kpX16_character e25) K0
      have K28 := pm_S3.trans (show pm_S3 w26.2 _ from kpX16_character e25) K0
      have hf := pt_sr hf
      obtain ⟨y29, e30, hf⟩ := pm_lt hf
      cases hf
      exact pt_SV.trans (ih.2 x0 y29 w26.2 hi) K28
set_option maxHeartbeats 4000000 in
set_option maxRecDepth 100000 in
theorem kpX16_name {h : pm_H} {a0 : Nat} {r : ((Nat × pm_H) ⊕ pm_H)} (hf : fX16_name h a0 = some r) : pt_SV r h := by
  unfold fX16_name at hf
  have K0 := pm_S3.rf h
  obtain ⟨k1, hf⟩ := pm_if hf
  obtain ⟨v2, e3, hf⟩ := pm_bd hf
  rcases v2 with z5 | w4
  · have hf := pt_kl hf
    cases hf
    exact pm_S3.trans (show pm_S3 z5.2 _ from kpX16_number e3) K0
  have K6 := pm_S3.trans (show pm_S3 w4.2 _ from kpX16_number e3) K0
  have hf := pt_kr hf
  obtain ⟨k7, hf⟩ := pm_if hf
  obtain ⟨y8, e9, hf⟩ := pm_lt hf
  obtain ⟨n, hn⟩ := pm_lim_iter hf
  exact pt_SV.trans ((klX16_name n).1 a0 w4.1 0 (pm_setI w4.2 a0 16 y8) hn) K6
set_option maxHeartbeats 4000000 in
set_option maxRecDepth 100000 in
theorem kpX16_names_b113 {h : pm_H} {x0 : Nat} {x1 : Int32} {x4 : Int32} {r : ((Nat × pm_H) ⊕ pm_H)} (hf : fX16_names_b113 h x0 x1 x4 = some r) : pt_SV r h := by
  unfold fX16_names_b113 at hf
  have K0 := pm_S3.rf h
  by_cases c47 : x1 = 32
  · have hf := pm_it hf c47
    obtain ⟨k48, hf⟩ := pm_if hf
    obtain ⟨v49, e50, hf⟩ := pm_bd hf
    rcases v49 with z52 | w51
    · have hf := pt_kl hf
      cases hf
      exact pm_S3.trans (show pm_S3 z52.2 _ from kpX16_put e50) K0
    have K53 := pm_S3.trans (show pm_S3 w51 _ from kpX16_put e50) K0
    have hf := pt_kr hf
    cases hf
    exact K53
  · have hf := pm_ie hf c47
    by_cases c54 : x1 = 34
    · have hf := pm_it hf c54
      obtain ⟨k55, hf⟩ := pm_if hf
      obtain ⟨v56, e57, hf⟩ := pm_bd hf
      rcases v56 with z59 | w58
      · have hf := pt_kl hf
        cases hf
        exact pm_S3.trans (show pm_S3 z59.2 _ from kpX16_put e57) K0
      have K60 := pm_S3.trans (show pm_S3 w58 _ from kpX16_put e57) K0
      have hf := pt_kr hf
      cases hf
      exact K60
    · have hf := pm_ie hf c54
      by_cases c61 : x1 = 35
      · have hf := pm_it hf c61
        obtain ⟨k62, hf⟩ := pm_if hf
        obtain ⟨v63, e64, hf⟩ := pm_bd hf
        rcases v63 with z66 | w65
        · have hf := pt_kl hf
          cases hf
          exact pm_S3.trans (show pm_S3 z66.2 _ from kpX16_put e64) K0
        have K67 := pm_S3.trans (show pm_S3 w65 _ from kpX16_put e64) K0
        have hf := pt_kr hf
        cases hf
        exact K67
      · have hf := pm_ie hf c61
        by_cases c68 : x1 = 37
        · have hf := pm_it hf c68
          obtain ⟨k69, hf⟩ := pm_if hf
          obtain ⟨v70, e71, hf⟩ := pm_bd hf
          rcases v70 with z73 | w72
          · have hf := pt_kl hf
            cases hf
            exact pm_S3.trans (show pm_S3 z73.2 _ from kpX16_put e71) K0
          have K74 := pm_S3.trans (show pm_S3 w72 _ from kpX16_put e71) K0
          have hf := pt_kr hf
          cases hf
          exact K74
        · have hf := pm_ie hf c68
          cases hf
          exact K0
set_option maxHeartbeats 4000000 in
set_option maxRecDepth 100000 in
theorem kpX16_names_b100 {h : pm_H} {x0 : Nat} {x1 : Int32} {x4 : Int32} {r : ((Nat × pm_H) ⊕ pm_H)} (hf : fX16_names_b100 h x0 x1 x4 = some r) : pt_SV r h := by
  unfold fX16_names_b100 at hf
  have K0 := pm_S3.rf h
  by_cases c40 : x1 = 38
  · have hf := pm_it hf c40
    obtain ⟨k41, hf⟩ := pm_if hf
    obtain ⟨v42, e43, hf⟩ := pm_bd hf
    rcases v42 with z45 | w44
    · have hf := pt_kl hf
      cases hf
      exact pm_S3.trans (show pm_S3 z45.2 _ from kpX16_takes e43) K0
    have K46 := pm_S3.trans (show pm_S3 w44 _ from kpX16_takes e43) K0
    have hf := pt_kr hf
    exact pt_SV.trans (kpX16_names_b113 hf) K46
  · have hf := pm_ie hf c40
    exact pt_SV.trans (kpX16_names_b113 hf) K0
set_option maxHeartbeats 4000000 in
set_option maxRecDepth 100000 in
theorem kpX16_names_b93 {h : pm_H} {x0 : Nat} {x1 : Int32} {x4 : Int32} {r : ((Nat × pm_H) ⊕ pm_H)} (hf : fX16_names_b93 h x0 x1 x4 = some r) : pt_SV r h := by
  unfold fX16_names_b93 at hf
  have K0 := pm_S3.rf h
  obtain ⟨k34, hf⟩ := pm_if hf
  obtain ⟨v35, e36, hf⟩ := pm_bd hf
  rcases v35 with z38 | w37
  · have hf := pt_kl hf
    cases hf
    exact pm_S3.trans (show pm_S3 z38.2 _ from kpX16_takes e36) K0
  have K39 := pm_S3.trans (show pm_S3 w37 _ from kpX16_takes e36) K0
  have hf := pt_kr hf
  exact pt_SV.trans (kpX16_names_b100 hf) K39
set_option maxHeartbeats 4000000 in
set_option maxRecDepth 100000 in
theorem kpX16_names_b69 {h : pm_H} {x0 : Nat} {x1 : Int32} {x4 : Int32} {r : ((Nat × pm_H) ⊕ pm_H)} (hf : fX16_names_b69 h x0 x1 x4 = some r) : pt_SV r h := by
  unfold fX16_names_b69 at hf
  have K0 := pm_S3.rf h
  by_cases c30 : x1 = 33
  · have hf := pm_it hf c30
    exact pt_SV.trans (kpX16_names_b93 hf) K0
  · have hf := pm_ie hf c30
    by_cases c31 : x1 = 34
    · have hf := pm_it hf c31
      exact pt_SV.trans (kpX16_names_b93 hf) K0
    · have hf := pm_ie hf c31
      by_cases c32 : x1 = 36
      · have hf := pm_it hf c32
        exact pt_SV.trans (kpX16_names_b93 hf) K0
      · have hf := pm_ie hf c32
        by_cases c33 : x1 = 38
        · have hf := pm_it hf c33
          exact pt_SV.trans (kpX16_names_b93 hf) K0
        · have hf := pm_ie hf c33
          exact pt_SV.trans (kpX16_names_b100 hf) K0
set_option maxHeartbeats 4000000 in
set_option maxRecDepth 100000 in
theorem kpX16_names_b54 {h : pm_H} {x0 : Nat} {x1 : Int32} {s0 : Int32} {r : ((Nat × pm_H) ⊕ pm_H)} (hf : fX16_names_b54 h x0 x1 s0 = some r) : pt_SV r h := by
  unfold fX16_names_b54 at hf
  have K0 := pm_S3.rf h
  by_cases c23 : x1 = 37
  · have hf := pm_it hf c23
    obtain ⟨k24, hf⟩ := pm_if hf
    obtain ⟨v25, e26, hf⟩ := pm_bd hf
    rcases v25 with z28 | w27
    · have hf := pt_kl hf
      cases hf
      exact pm_S3.trans (show pm_S3 z28.2 _ from kpX16_takes e26) K0
    have K29 := pm_S3.trans (show pm_S3 w27 _ from kpX16_takes e26) K0
    have hf := pt_kr hf
    exact pt_SV.trans (kpX16_names_b69 hf) K29
  · have hf := pm_ie hf c23
    exact pt_SV.trans (kpX16_names_b69 hf) K0
set_option maxHeartbeats 4000000 in
set_option maxRecDepth 100000 in
theorem kpX16_names {h : pm_H} {a0 : Nat} {p1 : Int32} {r : ((Nat × pm_H) ⊕ pm_H)} (hf : fX16_names h a0 p1 = some r) : pt_SV r h := by
  unfold fX16_names at hf
  have K0 := pm_S3.rf h
  obtain ⟨k1, hf⟩ := pm_if hf
  obtain ⟨v2, e3, hf⟩ := pm_bd hf
  have K4 := pm_S3.trans (kpX16_word e3) K0
  by_cases c5 : 35 ≤ p1
  · have hf := pm_it hf c5
    by_cases c6 : 37 ≤ p1
    · have hf := pm_it hf c6
      obtain ⟨k7, hf⟩ := pm_if hf
      obtain ⟨v8, e9, hf⟩ := pm_bd hf
      obtain ⟨k10, hf⟩ := pm_if hf
      obtain ⟨v11, e12, hf⟩ := pm_bd hf
      exact pt_SV.trans (kpX16_names_b54 hf) K4
    · have hf := pm_ie hf c6
      obtain ⟨k13, hf⟩ := pm_if hf
      obtain ⟨v14, e15, hf⟩ := pm_bd hf
      obtain ⟨k16, hf⟩ := pm_if hf
      obtain ⟨v17, e18, hf⟩ := pm_bd hf
      exact pt_SV.trans (kpX16_names_b54 hf) K4
  · have hf := pm_ie hf c5
    obtain ⟨k19, hf⟩ := pm_if hf
    obtain ⟨v20, e21, hf⟩ := pm_bd hf
    have K22 := pm_S3.trans (kpX16_localType e21) K4
    exact pt_SV.trans (kpX16_names_b54 hf) K22
set_option maxHeartbeats 4000000 in
set_option maxRecDepth 100000 in
theorem klX16_operands {r : ((Nat × pm_H) ⊕ pm_H)} : ∀ n : Nat, (∀ (x0 : Nat) (x1 : Int32) (x4 : Int32) (h : pm_H), pm_iter sX16_operands n (.inl (x0, x1, x4, h)) = some r → pt_SV r h) ∧ (∀ (x0 : Nat) (x4 : Int64) (x6 : Int64) (h : pm_H), pm_iter sX16_operands n (.inr (.inl (x0, x4, x6, h))) = some r → pt_SV r h) ∧ (∀ (x0 : Nat) (x4 : Int64) (x6 : Int64) (h : pm_H), pm_iter sX16_operands n (.inr (.inr (x0, x4, x6, h))) = some r → pt_SV r h) := by
  intro n
  induction n with
  | zero => exact ⟨fun _ _ _ _ hf => (by cases hf), fun _ _ _ _ hf => (by cases hf), fun _ _ _ _ hf => (by cases hf)⟩
  | succ n ih =>
    refine ⟨fun x0 x1 x4 h hf => ?_, ?_⟩
    · obtain ⟨y, hf, hi⟩ := pm_iter_s hf
      have hf : tX16_operands_247 x0 x1 x4 h = some y := hf
      unfold tX16_operands_247 at hf
      have K0 := pm_S3.rf h
      by_cases c157 : x1 = 67
      · have hf := pm_it hf c157
        by_cases c158 : 4 ≤ x4
        · have hf := pm_it hf c158
          cases hf
          cases hi
          exact K0
        · have hf := pm_ie hf c158
          obtain ⟨k159, hf⟩ := pm_if hf
          obtain ⟨v160, e161, hf⟩ := pm_bd hf
          rcases v160 with z163 | w162
          · have hf := pt_sl hf
            cases hf
            cases hi
            exact pm_S3.trans (show pm_S3 z163.2 _ from kpX16_next e161) K0
          have K164 := pm_S3.trans (show pm_S3 w162.2 _ from kpX16_next e161) K0
          have hf := pt_sr hf
          obtain ⟨y165, e166, hf⟩ := pm_lt hf
          cases hf
          exact pt_SV.trans (ih.1 x0 x1 y165 w162.2 hi) K164
      · have hf := pm_ie hf c157
        by_cases c167 : 8 ≤ x4
        · have hf := pm_it hf c167
          cases hf
          cases hi
          exact K0
        · have hf := pm_ie hf c167
          obtain ⟨k168, hf⟩ := pm_if hf
          obtain ⟨v169, e170, hf⟩ := pm_bd hf
          rcases v169 with z172 | w171
          · have hf := pt_sl hf
            cases hf
            cases hi
            exact pm_S3.trans (show pm_S3 z172.2 _ from kpX16_next e170) K0
          have K173 := pm_S3.trans (show pm_S3 w171.2 _ from kpX16_next e170) K0
          have hf := pt_sr hf
          obtain ⟨y174, e175, hf⟩ := pm_lt hf
          cases hf
          exact pt_SV.trans (ih.1 x0 x1 y174 w171.2 hi) K173
    refine ⟨fun x0 x4 x6 h hf => ?_, ?_⟩
    · obtain ⟨y, hf, hi⟩ := pm_iter_s hf
      have hf : tX16_operands_150 x0 x4 x6 h = some y := hf
      unfold tX16_operands_150 at hf
      have K0 := pm_S3.rf h
      by_cases c148 : x4 ≤ x6
      · have hf := pm_it hf c148
        cases hf
        cases hi
        exact K0
      · have hf := pm_ie hf c148
        obtain ⟨k149, hf⟩ := pm_if hf
        obtain ⟨v150, e151, hf⟩ := pm_bd hf
        rcases v150 with z153 | w152
        · have hf := pt_sl hf
          cases hf
          cases hi
          exact pm_S3.trans (show pm_S3 z153.2 _ from kpX16_type e151) K0
        have K154 := pm_S3.trans (show pm_S3 w152.2 _ from kpX16_type e151) K0
        have hf := pt_sr hf
        obtain ⟨y155, e156, hf⟩ := pm_lt hf
        cases hf
        exact pt_SV.trans (ih.2.1 x0 x4 y155 w152.2 hi) K154
    refine fun x0 x4 x6 h hf => ?_
    obtain ⟨y, hf, hi⟩ := pm_iter_s hf
    have hf : tX16_operands_89 x0 x4 x6 h = some y := hf
    unfold tX16_operands_89 at hf
    have K0 := pm_S3.rf h
    by_cases c139 : x4 < x6
    · have hf := pm_it hf c139
      cases hf
      cases hi
      exact K0
    · have hf := pm_ie hf c139
      obtain ⟨k140, hf⟩ := pm_if hf
      obtain ⟨v141, e142, hf⟩ := pm_bd hf
      rcases v141 with z144 | w143
      · have hf := pt_sl hf
        cases hf
        cases hi
        exact pm_S3.trans (show pm_S3 z144.2 _ from kpX16_number e142) K0
      have K145 := pm_S3.trans (show pm_S3 w143.2 _ from kpX16_number e142) K0
      have hf := pt_sr hf
      obtain ⟨y146, e147, hf⟩ := pm_lt hf
      cases hf
      exact pt_SV.trans (ih.2.2 x0 x4 y146 w143.2 hi) K145
set_option maxHeartbeats 4000000 in
set_option maxRecDepth 100000 in
theorem kpX16_operands {h : pm_H} {a0 : Nat} {p1 : Int32} {p2 : Int32} {p3 : Int32} {r : ((Nat × pm_H) ⊕ pm_H)} (hf : fX16_operands h a0 p1 p2 p3 = some r) : pt_SV r h := by
  unfold fX16_operands at hf
  have K0 := pm_S3.rf h
  obtain ⟨v1, e2, hf⟩ := pm_lt hf
  by_cases c3 : v1 = 0
  · have hf := pm_it hf c3
    obtain ⟨v4, e5, hf⟩ := pm_lt hf
    by_cases c6 : v4 = 0
    · have hf := pm_it hf c6
      obtain ⟨v7, e8, hf⟩ := pm_lt hf
      by_cases c9 : v7 = 0
      · have hf := pm_it hf c9
        by_cases c10 : p1 = 17
        · have hf := pm_it hf c10
          obtain ⟨k11, hf⟩ := pm_if hf
          obtain ⟨v12, e13, hf⟩ := pm_bd hf
          rcases v12 with z15 | w14
          · have hf := pt_kl hf
            cases hf
            exact pm_S3.trans (show pm_S3 z15.2 _ from kpX16_number e13) K0
          have K16 := pm_S3.trans (show pm_S3 w14.2 _ from kpX16_number e13) K0
          have hf := pt_kr hf
          obtain ⟨k17, hf⟩ := pm_if hf
          obtain ⟨v18, e19, hf⟩ := pm_bd hf
          rcases v18 with z21 | w20
          · have hf := pt_kl hf
            cases hf
            exact pm_S3.trans (show pm_S3 z21.2 _ from kpX16_number e19) K16
          have K22 := pm_S3.trans (show pm_S3 w20.2 _ from kpX16_number e19) K16
          have hf := pt_kr hf
          cases hf
          exact K22
        · have hf := pm_ie hf c10
          by_cases c23 : p1 = 14
          · have hf := pm_it hf c23
            obtain ⟨k24, hf⟩ := pm_if hf
            obtain ⟨v25, e26, hf⟩ := pm_bd hf
            rcases v25 with z28 | w27
            · have hf := pt_kl hf
              cases hf
              exact pm_S3.trans (show pm_S3 z28.2 _ from kpX16_number e26) K0
            have K29 := pm_S3.trans (show pm_S3 w27.2 _ from kpX16_number e26) K0
            have hf := pt_kr hf
            by_cases c30 : p3 = 0
            · have hf := pm_it hf c30
              obtain ⟨n, hn⟩ := pm_lim_iter hf
              exact pt_SV.trans ((klX16_operands n).2.2 a0 w27.1 0 w27.2 hn) K29
            · have hf := pm_ie hf c30
              by_cases c31 : w27.1 ≤ 200
              · have hf := pm_it hf c31
                obtain ⟨k32, hf⟩ := pm_if hf
                obtain ⟨v33, e34, hf⟩ := pm_bd hf
                have K35 := pm_S3.trans (kpX16_exceeds e34) K29
                obtain ⟨n, hn⟩ := pm_lim_iter hf
                exact pt_SV.trans ((klX16_operands n).2.2 a0 w27.1 0 v33 hn) K35
              · have hf := pm_ie hf c31
                obtain ⟨k36, hf⟩ := pm_if hf
                obtain ⟨v37, e38, hf⟩ := pm_bd hf
                have K39 := pm_S3.trans (kpX16_exceeds e38) K29
                obtain ⟨n, hn⟩ := pm_lim_iter hf
                exact pt_SV.trans ((klX16_operands n).2.2 a0 w27.1 0 v37 hn) K39
          · have hf := pm_ie hf c23
            by_cases c40 : p1 = 28
            · have hf := pm_it hf c40
              obtain ⟨k41, hf⟩ := pm_if hf
              obtain ⟨v42, e43, hf⟩ := pm_bd hf
              rcases v42 with z45 | w44
              · have hf := pt_kl hf
                cases hf
                exact pm_S3.trans (show pm_S3 z45.2 _ from kpX16_number e43) K0
              have K46 := pm_S3.trans (show pm_S3 w44.2 _ from kpX16_number e43) K0
              have hf := pt_kr hf
              by_cases c47 : p3 = 0
              · have hf := pm_it hf c47
                obtain ⟨n, hn⟩ := pm_lim_iter hf
                exact pt_SV.trans ((klX16_operands n).2.1 a0 w44.1 0 w44.2 hn) K46
              · have hf := pm_ie hf c47
                by_cases c48 : w44.1 = 1
                · have hf := pm_it hf c48
                  obtain ⟨k49, hf⟩ := pm_if hf
                  obtain ⟨v50, e51, hf⟩ := pm_bd hf
                  have K52 := pm_S3.trans (kpX16_exceeds e51) K46
                  obtain ⟨n, hn⟩ := pm_lim_iter hf
                  exact pt_SV.trans ((klX16_operands n).2.1 a0 w44.1 0 v50 hn) K52
                · have hf := pm_ie hf c48
                  obtain ⟨k53, hf⟩ := pm_if hf
                  obtain ⟨v54, e55, hf⟩ := pm_bd hf
                  have K56 := pm_S3.trans (kpX16_exceeds e55) K46
                  obtain ⟨n, hn⟩ := pm_lim_iter hf
                  exact pt_SV.trans ((klX16_operands n).2.1 a0 w44.1 0 v54 hn) K56
            · have hf := pm_ie hf c40
              by_cases c57 : p1 = 63
              · have hf := pm_it hf c57
                obtain ⟨k58, hf⟩ := pm_if hf
                obtain ⟨v59, e60, hf⟩ := pm_bd hf
                rcases v59 with z62 | w61
                · have hf := pt_kl hf
                  cases hf
                  exact pm_S3.trans (show pm_S3 z62.2 _ from kpX16_small e60) K0
                have K63 := pm_S3.trans (show pm_S3 w61.2 _ from kpX16_small e60) K0
                have hf := pt_kr hf
                cases hf
                exact K63
              · have hf := pm_ie hf c57
                by_cases c64 : p1 = 64
                · have hf := pm_it hf c64
                  obtain ⟨k65, hf⟩ := pm_if hf
                  obtain ⟨v66, e67, hf⟩ := pm_bd hf
                  rcases v66 with z69 | w68
                  · have hf := pt_kl hf
                    cases hf
                    exact pm_S3.trans (show pm_S3 z69.2 _ from kpX16_small e67) K0
                  have K70 := pm_S3.trans (show pm_S3 w68.2 _ from kpX16_small e67) K0
                  have hf := pt_kr hf
                  cases hf
                  exact K70
                · have hf := pm_ie hf c64
                  by_cases c71 : p1 = 65
                  · have hf := pm_it hf c71
                    by_cases c72 : p1 = 65
                    · have hf := pm_it hf c72
                      obtain ⟨k73, hf⟩ := pm_if hf
                      obtain ⟨v74, e75, hf⟩ := pm_bd hf
                      rcases v74 with z77 | w76
                      · have hf := pt_kl hf
                        cases hf
                        exact pm_S3.trans (show pm_S3 z77.2 _ from kpX16_signed e75) K0
                      have K78 := pm_S3.trans (show pm_S3 w76.2 _ from kpX16_signed e75) K0
                      have hf := pt_kr hf
                      cases hf
                      exact K78
                    · have hf := pm_ie hf c72
                      obtain ⟨k79, hf⟩ := pm_if hf
                      obtain ⟨v80, e81, hf⟩ := pm_bd hf
                      rcases v80 with z83 | w82
                      · have hf := pt_kl hf
                        cases hf
                        exact pm_S3.trans (show pm_S3 z83.2 _ from kpX16_signed e81) K0
                      have K84 := pm_S3.trans (show pm_S3 w82.2 _ from kpX16_signed e81) K0
                      have hf := pt_kr hf
                      cases hf
                      exact K84
                  · have hf := pm_ie hf c71
                    by_cases c85 : p1 = 66
                    · have hf := pm_it hf c85
                      by_cases c86 : p1 = 65
                      · have hf := pm_it hf c86
                        obtain ⟨k87, hf⟩ := pm_if hf
                        obtain ⟨v88, e89, hf⟩ := pm_bd hf
                        rcases v88 with z91 | w90
                        · have hf := pt_kl hf
                          cases hf
                          exact pm_S3.trans (show pm_S3 z91.2 _ from kpX16_signed e89) K0
                        have K92 := pm_S3.trans (show pm_S3 w90.2 _ from kpX16_signed e89) K0
                        have hf := pt_kr hf
                        cases hf
                        exact K92
                      · have hf := pm_ie hf c86
                        obtain ⟨k93, hf⟩ := pm_if hf
                        obtain ⟨v94, e95, hf⟩ := pm_bd hf
                        rcases v94 with z97 | w96
                        · have hf := pt_kl hf
                          cases hf
                          exact pm_S3.trans (show pm_S3 z97.2 _ from kpX16_signed e95) K0
                        have K98 := pm_S3.trans (show pm_S3 w96.2 _ from kpX16_signed e95) K0
                        have hf := pt_kr hf
                        cases hf
                        exact K98
                    · have hf := pm_ie hf c85
                      by_cases c99 : p1 = 67
                      · have hf := pm_it hf c99
                        obtain ⟨n, hn⟩ := pm_lim_iter hf
                        exact pt_SV.trans ((klX16_operands n).1 a0 p1 0 h hn) K0
                      · have hf := pm_ie hf c99
                        by_cases c100 : p1 = 68
                        · have hf := pm_it hf c100
                          obtain ⟨n, hn⟩ := pm_lim_iter hf
                          exact pt_SV.trans ((klX16_operands n).1 a0 p1 0 h hn) K0
                        · have hf := pm_ie hf c100
                          by_cases c101 : p1 = 208
                          · have hf := pm_it hf c101
                            obtain ⟨k102, hf⟩ := pm_if hf
                            obtain ⟨v103, e104, hf⟩ := pm_bd hf
                            rcases v103 with z106 | w105
                            · have hf := pt_kl hf
                              cases hf
                              exact pm_S3.trans (show pm_S3 z106.2 _ from kpX16_referenceType e104) K0
                            have K107 := pm_S3.trans (show pm_S3 w105.2 _ from kpX16_referenceType e104) K0
                            have hf := pt_kr hf
                            cases hf
                            exact K107
                          · have hf := pm_ie hf c101
                            by_cases c108 : p1 = 252
                            · have hf := pm_it hf c108
                              obtain ⟨k109, hf⟩ := pm_if hf
                              obtain ⟨v110, e111, hf⟩ := pm_bd hf
                              rcases v110 with z113 | w112
                              · have hf := pt_kl hf
                                cases hf
                                exact pm_S3.trans (show pm_S3 z113.2 _ from kpX16_further e111) K0
                              have K114 := pm_S3.trans (show pm_S3 w112 _ from kpX16_further e111) K0
                              have hf := pt_kr hf
                              cases hf
                              exact K114
                            · have hf := pm_ie hf c108
                              obtain ⟨k115, hf⟩ := pm_if hf
                              obtain ⟨v116, e117, hf⟩ := pm_bd hf
                              rcases v116 with z119 | w118
                              · have hf := pt_kl hf
                                cases hf
                                exact pm_S3.trans (show pm_S3 z119.2 _ from kpX16_stops e117) K0
                              have K120 := pm_S3.trans (show pm_S3 w118 _ from kpX16_stops e117) K0
                              have hf := pt_kr hf
                              cases hf
                              exact K120
      · have hf := pm_ie hf c9
        obtain ⟨k121, hf⟩ := pm_if hf
        obtain ⟨v122, e123, hf⟩ := pm_bd hf
        rcases v122 with z125 | w124
        · have hf := pt_kl hf
          cases hf
          exact pm_S3.trans (show pm_S3 z125.2 _ from kpX16_number e123) K0
        have K126 := pm_S3.trans (show pm_S3 w124.2 _ from kpX16_number e123) K0
        have hf := pt_kr hf
        obtain ⟨k127, hf⟩ := pm_if hf
        obtain ⟨v128, e129, hf⟩ := pm_bd hf
        rcases v128 with z131 | w130
        · have hf := pt_kl hf
          cases hf
          exact pm_S3.trans (show pm_S3 z131.2 _ from kpX16_number e129) K126
        have K132 := pm_S3.trans (show pm_S3 w130.2 _ from kpX16_number e129) K126
        have hf := pt_kr hf
        cases hf
        exact K132
    · have hf := pm_ie hf c6
      obtain ⟨k133, hf⟩ := pm_if hf
      obtain ⟨v134, e135, hf⟩ := pm_bd hf
      rcases v134 with z137 | w136
      · have hf := pt_kl hf
        cases hf
        exact pm_S3.trans (show pm_S3 z137.2 _ from kpX16_number e135) K0
      have K138 := pm_S3.trans (show pm_S3 w136.2 _ from kpX16_number e135) K0
      have hf := pt_kr hf
      cases hf
      exact K138
  · have hf := pm_ie hf c3
    cases hf
    exact K0
set_option maxHeartbeats 4000000 in
set_option maxRecDepth 100000 in
theorem kpX16_operates {h : pm_H} {a0 : Nat} {p1 : Int32} {r : ((Nat × pm_H) ⊕ pm_H)} (hf : fX16_operates h a0 p1 = some r) : pt_SV r h := by
  unfold fX16_operates at hf
  have K0 := pm_S3.rf h
  obtain ⟨v1, e2, hf⟩ := pm_lt hf
  obtain ⟨v3, e4, hf⟩ := pm_lt hf
  by_cases c5 : v3 = 0
  · have hf := pm_it hf c5
    obtain ⟨k6, hf⟩ := pm_if hf
    obtain ⟨v7, e8, hf⟩ := pm_bd hf
    rcases v7 with z10 | w9
    · have hf := pt_kl hf
      cases hf
      exact pm_S3.trans (show pm_S3 z10.2 _ from kpX16_takes e8) K0
    have K11 := pm_S3.trans (show pm_S3 w9 _ from kpX16_takes e8) K0
    have hf := pt_kr hf
    obtain ⟨v12, e13, hf⟩ := pm_lt hf
    obtain ⟨k14, hf⟩ := pm_if hf
    obtain ⟨v15, e16, hf⟩ := pm_bd hf
    rcases v15 with z18 | w17
    · have hf := pt_kl hf
      cases hf
      exact pm_S3.trans (show pm_S3 z18.2 _ from kpX16_put e16) K11
    have K19 := pm_S3.trans (show pm_S3 w17 _ from kpX16_put e16) K11
    have hf := pt_kr hf
    cases hf
    exact K19
  · have hf := pm_ie hf c5
    obtain ⟨k20, hf⟩ := pm_if hf
    obtain ⟨v21, e22, hf⟩ := pm_bd hf
    rcases v21 with z24 | w23
    · have hf := pt_kl hf
      cases hf
      exact pm_S3.trans (show pm_S3 z24.2 _ from kpX16_takes e22) K0
    have K25 := pm_S3.trans (show pm_S3 w23 _ from kpX16_takes e22) K0
    have hf := pt_kr hf
    obtain ⟨v26, e27, hf⟩ := pm_lt hf
    obtain ⟨k28, hf⟩ := pm_if hf
    obtain ⟨v29, e30, hf⟩ := pm_bd hf
    rcases v29 with z32 | w31
    · have hf := pt_kl hf
      cases hf
      exact pm_S3.trans (show pm_S3 z32.2 _ from kpX16_put e30) K25
    have K33 := pm_S3.trans (show pm_S3 w31 _ from kpX16_put e30) K25
    have hf := pt_kr hf
    cases hf
    exact K33
set_option maxHeartbeats 4000000 in
set_option maxRecDepth 100000 in
theorem klX16_readsExports {r : ((Nat × pm_H) ⊕ pm_H)} : ∀ n : Nat, (∀ (x0 : Nat) (x1 : Int64) (x3 : Int64) (h : pm_H), pm_iter sX16_readsExports n (x0, x1, x3, h) = some r → pt_SV r h) := by
  intro n
  induction n with
  | zero => exact fun _ _ _ _ hf => (by cases hf)
  | succ n ih =>
    refine fun x0 x1 x3 h hf => ?_
    obtain ⟨y, hf, hi⟩ := pm_iter_s hf
    have hf : tX16_readsExports_19 x0 x1 x3 h = some y := hf
    unfold tX16_readsExports_19 at hf
    have K0 := pm_S3.rf h
    by_cases c14 : x1 ≤ x3
    · have hf := pm_it hf c14
      cases hf
      cases hi
      exact K0
    · have hf := pm_ie hf c14
      obtain ⟨k15, hf⟩ := pm_if hf
      obtain ⟨v16, e17, hf⟩ := pm_bd hf
      rcases v16 with z19 | w18
      · have hf := pt_sl hf
        cases hf
        cases hi
        exact pm_S3.trans (show pm_S3 z19.2 _ from kpX16_name e17) K0
      have K20 := pm_S3.trans (show pm_S3 w18 _ from kpX16_name e17) K0
      have hf := pt_sr hf
      obtain ⟨k21, hf⟩ := pm_if hf
      obtain ⟨y22, e23, hf⟩ := pm_lt hf
      obtain ⟨y24, e25, hf⟩ := pm_lt hf
      obtain ⟨v26, e27, hf⟩ := pm_bd hf
      rcases v26 with z29 | w28
      · have hf := pt_sl hf
        cases hf
        cases hi
        exact pm_S3.trans (show pm_S3 z29.2 _ from kpX16_small e27) K20
      have K30 := pm_S3.trans (show pm_S3 w28.2 _ from kpX16_small e27) K20
      have hf := pt_sr hf
      obtain ⟨k31, hf⟩ := pm_if hf
      obtain ⟨v32, e33, hf⟩ := pm_bd hf
      rcases v32 with z35 | w34
      · have hf := pt_sl hf
        cases hf
        cases hi
        exact pm_S3.trans (show pm_S3 z35.2 _ from kpX16_number e33) K30
      have K36 := pm_S3.trans (show pm_S3 w34.2 _ from kpX16_number e33) K30
      have hf := pt_sr hf
      by_cases c37 : 64 ≤ x3
      · have hf := pm_it hf c37
        obtain ⟨y38, e39, hf⟩ := pm_lt hf
        cases hf
        exact pt_SV.trans (ih x0 x1 y38 w34.2 hi) K36
      · have hf := pm_ie hf c37
        obtain ⟨k40, hf⟩ := pm_if hf
        obtain ⟨v41, e42, hf⟩ := pm_bd hf
        obtain ⟨k43, hf⟩ := pm_if hf
        obtain ⟨v44, e45, hf⟩ := pm_bd hf
        obtain ⟨k46, hf⟩ := pm_if hf
        obtain ⟨u47, hf⟩ := pm_if hf
        obtain ⟨v48, e49, hf⟩ := pm_bd hf
        obtain ⟨y50, e51, hf⟩ := pm_lt hf
        obtain ⟨k52, hf⟩ := pm_if hf
        obtain ⟨u53, hf⟩ := pm_if hf
        obtain ⟨v54, e55, hf⟩ := pm_bd hf
        obtain ⟨k56, hf⟩ := pm_if hf
        obtain ⟨u57, hf⟩ := pm_if hf
        obtain ⟨v58, e59, hf⟩ := pm_bd hf
        obtain ⟨k60, hf⟩ := pm_if hf
        obtain ⟨u61, hf⟩ := pm_if hf
        obtain ⟨y62, e63, hf⟩ := pm_lt hf
        cases hf
        exact pt_SV.trans (ih x0 x1 y62 (pm_setL (pm_setI (pm_setI (pm_setI w34.2 v44 x3.toInt32.toNatClampNeg y22) v48 x3.toInt32.toNatClampNeg y50) v54 x3.toInt32.toNatClampNeg w28.1) v58 x3.toInt32.toNatClampNeg w34.1) hi) K36
set_option maxHeartbeats 4000000 in
set_option maxRecDepth 100000 in
theorem kpX16_readsExports {h : pm_H} {a0 : Nat} {r : ((Nat × pm_H) ⊕ pm_H)} (hf : fX16_readsExports h a0 = some r) : pt_SV r h := by
  unfold fX16_readsExports at hf
  have K0 := pm_S3.rf h
  obtain ⟨k1, hf⟩ := pm_if hf
  obtain ⟨v2, e3, hf⟩ := pm_bd hf
  rcases v2 with z5 | w4
  · have hf := pt_kl hf
    cases hf
    exact pm_S3.trans (show pm_S3 z5.2 _ from kpX16_number e3) K0
  have K6 := pm_S3.trans (show pm_S3 w4.2 _ from kpX16_number e3) K0
  have hf := pt_kr hf
  obtain ⟨k7, hf⟩ := pm_if hf
  obtain ⟨v8, e9, hf⟩ := pm_bd hf
  obtain ⟨v10, e11, hf⟩ := pm_bd hf
  have K12 := pm_S3.trans (kpX16_kept e11) K6
  obtain ⟨k13, hf⟩ := pm_if hf
  obtain ⟨n, hn⟩ := pm_lim_iter hf
  exact pt_SV.trans ((klX16_readsExports n) a0 w4.1 0 (pm_setI v10.2 v8 28 v10.1) hn) K12
set_option maxHeartbeats 4000000 in
set_option maxRecDepth 100000 in
theorem klX16_readsImports {r : ((Nat × pm_H) ⊕ pm_H)} : ∀ n : Nat, (∀ (x0 : Nat) (x1 : Int64) (x3 : Int64) (h : pm_H), pm_iter sX16_readsImports n (.inl (x0, x1, x3, h)) = some r → pt_SV r h) ∧ (∀ (x0 : Nat) (x1 : Int64) (x3 : Int64) (x5 : Int32) (x6 : Int64) (x8 : Int32) (h : pm_H), pm_iter sX16_readsImports n (.inr (x0, x1, x3, x5, x6, x8, h)) = some r → pt_SV r h) := by
  intro n
  induction n with
  | zero => exact ⟨fun _ _ _ _ hf => (by cases hf), fun _ _ _ _ _ _ _ hf => (by cases hf)⟩
  | succ n ih =>
    refine ⟨fun x0 x1 x3 h hf => ?_, ?_⟩
    · obtain ⟨y, hf, hi⟩ := pm_iter_s hf
      have hf : tX16_readsImports_19 x0 x1 x3 h = some y := hf
      unfold tX16_readsImports_19 at hf
      have K0 := pm_S3.rf h
      by_cases c14 : x1 ≤ x3
      · have hf := pm_it hf c14
        cases hf
        cases hi
        exact K0
      · have hf := pm_ie hf c14
        obtain ⟨k15, hf⟩ := pm_if hf
        obtain ⟨v16, e17, hf⟩ := pm_bd hf
        rcases v16 with z19 | w18
        · have hf := pt_sl hf
          cases hf
          cases hi
          exact pm_S3.trans (show pm_S3 z19.2 _ from kpX16_name e17) K0
        have K20 := pm_S3.trans (show pm_S3 w18 _ from kpX16_name e17) K0
        have hf := pt_sr hf
        obtain ⟨k21, hf⟩ := pm_if hf
        obtain ⟨v22, e23, hf⟩ := pm_bd hf
        rcases v22 with z25 | w24
        · have hf := pt_sl hf
          cases hf
          cases hi
          exact pm_S3.trans (show pm_S3 z25.2 _ from kpX16_name e23) K20
        have K26 := pm_S3.trans (show pm_S3 w24 _ from kpX16_name e23) K20
        have hf := pt_sr hf
        obtain ⟨k27, hf⟩ := pm_if hf
        obtain ⟨v28, e29, hf⟩ := pm_bd hf
        rcases v28 with z31 | w30
        · have hf := pt_sl hf
          cases hf
          cases hi
          exact pm_S3.trans (show pm_S3 z31.2 _ from kpX16_small e29) K26
        have K32 := pm_S3.trans (show pm_S3 w30.2 _ from kpX16_small e29) K26
        have hf := pt_sr hf
        obtain ⟨k33, hf⟩ := pm_if hf
        by_cases c34 : w30.1 = 0
        · have hf := pm_it hf c34
          obtain ⟨v35, e36, hf⟩ := pm_bd hf
          rcases v35 with z38 | w37
          · have hf := pt_sl hf
            cases hf
            cases hi
            exact pm_S3.trans (show pm_S3 z38.2 _ from kpX16_number e36) K32
          have K39 := pm_S3.trans (show pm_S3 w37.2 _ from kpX16_number e36) K32
          have hf := pt_sr hf
          cases hf
          exact pt_SV.trans (ih.2 x0 x1 x3 w30.1 w37.1 0 w37.2 hi) K39
        · have hf := pm_ie hf c34
          by_cases c40 : w30.1 = 3
          · have hf := pm_it hf c40
            obtain ⟨v41, e42, hf⟩ := pm_bd hf
            rcases v41 with z44 | w43
            · have hf := pt_sl hf
              cases hf
              cases hi
              exact pm_S3.trans (show pm_S3 z44.2 _ from kpX16_type e42) K32
            have K45 := pm_S3.trans (show pm_S3 w43.2 _ from kpX16_type e42) K32
            have hf := pt_sr hf
            obtain ⟨k46, hf⟩ := pm_if hf
            obtain ⟨v47, e48, hf⟩ := pm_bd hf
            rcases v47 with z50 | w49
            · have hf := pt_sl hf
              cases hf
              cases hi
              exact pm_S3.trans (show pm_S3 z50.2 _ from kpX16_small e48) K45
            have K51 := pm_S3.trans (show pm_S3 w49.2 _ from kpX16_small e48) K45
            have hf := pt_sr hf
            by_cases c52 : w49.1 = 1
            · have hf := pm_it hf c52
              cases hf
              exact pt_SV.trans (ih.2 x0 x1 x3 w30.1 w43.1.toInt64 1 w49.2 hi) K51
            · have hf := pm_ie hf c52
              cases hf
              exact pt_SV.trans (ih.2 x0 x1 x3 w30.1 w43.1.toInt64 0 w49.2 hi) K51
          · have hf := pm_ie hf c40
            by_cases c53 : w30.1 = 1
            · have hf := pm_it hf c53
              obtain ⟨v54, e55, hf⟩ := pm_bd hf
              rcases v54 with z57 | w56
              · have hf := pt_sl hf
                cases hf
                cases hi
                exact pm_S3.trans (show pm_S3 z57.2 _ from kpX16_referenceType e55) K32
              have K58 := pm_S3.trans (show pm_S3 w56.2 _ from kpX16_referenceType e55) K32
              have hf := pt_sr hf
              obtain ⟨k59, hf⟩ := pm_if hf
              obtain ⟨v60, e61, hf⟩ := pm_bd hf
              rcases v60 with z63 | w62
              · have hf := pt_sl hf
                cases hf
                cases hi
                exact pm_S3.trans (show pm_S3 z63.2 _ from kpX16_limits e61) K58
              have K64 := pm_S3.trans (show pm_S3 w62 _ from kpX16_limits e61) K58
              have hf := pt_sr hf
              cases hf
              exact pt_SV.trans (ih.2 x0 x1 x3 w30.1 w56.1.toInt64 0 w62 hi) K64
            · have hf := pm_ie hf c53
              obtain ⟨v65, e66, hf⟩ := pm_bd hf
              rcases v65 with z68 | w67
              · have hf := pt_sl hf
                cases hf
                cases hi
                exact pm_S3.trans (show pm_S3 z68.2 _ from kpX16_limits e66) K32
              have K69 := pm_S3.trans (show pm_S3 w67 _ from kpX16_limits e66) K32
              have hf := pt_sr hf
              cases hf
              exact pt_SV.trans (ih.2 x0 x1 x3 w30.1 0 0 w67 hi) K69
    refine fun x0 x1 x3 x5 x6 x8 h hf => ?_
    obtain ⟨y, hf, hi⟩ := pm_iter_s hf
    have hf : tX16_readsImports_125 x0 x1 x3 x5 x6 x8 h = some y := hf
    unfold tX16_readsImports_125 at hf
    have K0 := pm_S3.rf h
    by_cases c70 : 64 ≤ x3
    · have hf := pm_it hf c70
      obtain ⟨y71, e72, hf⟩ := pm_lt hf
      cases hf
      exact pt_SV.trans (ih.1 x0 x1 y71 h hi) K0
    · have hf := pm_ie hf c70
      obtain ⟨k73, hf⟩ := pm_if hf
      obtain ⟨v74, e75, hf⟩ := pm_bd hf
      obtain ⟨k76, hf⟩ := pm_if hf
      obtain ⟨v77, e78, hf⟩ := pm_bd hf
      obtain ⟨k79, hf⟩ := pm_if hf
      obtain ⟨u80, hf⟩ := pm_if hf
      obtain ⟨v81, e82, hf⟩ := pm_bd hf
      obtain ⟨k83, hf⟩ := pm_if hf
      obtain ⟨u84, hf⟩ := pm_if hf
      obtain ⟨v85, e86, hf⟩ := pm_bd hf
      obtain ⟨y87, e88, hf⟩ := pm_lt hf
      obtain ⟨k89, hf⟩ := pm_if hf
      obtain ⟨u90, hf⟩ := pm_if hf
      obtain ⟨v91, e92, hf⟩ := pm_bd hf
      obtain ⟨y93, e94, hf⟩ := pm_lt hf
      obtain ⟨k95, hf⟩ := pm_if hf
      obtain ⟨u96, hf⟩ := pm_if hf
      obtain ⟨v97, e98, hf⟩ := pm_bd hf
      obtain ⟨k99, hf⟩ := pm_if hf
      obtain ⟨u100, hf⟩ := pm_if hf
      obtain ⟨y101, e102, hf⟩ := pm_lt hf
      cases hf
      exact pt_SV.trans (ih.1 x0 x1 y101 (pm_setI (pm_setL (pm_setL (pm_setL (pm_setI h v77 x3.toInt32.toNatClampNeg x5) v81 x3.toInt32.toNatClampNeg x6) v85 x3.toInt32.toNatClampNeg y87) v91 x3.toInt32.toNatClampNeg y93) v97 x3.toInt32.toNatClampNeg (vp_nar .boolean x8)) hi) K0
set_option maxHeartbeats 4000000 in
set_option maxRecDepth 100000 in
theorem kpX16_readsImports {h : pm_H} {a0 : Nat} {r : ((Nat × pm_H) ⊕ pm_H)} (hf : fX16_readsImports h a0 = some r) : pt_SV r h := by
  unfold fX16_readsImports at hf
  have K0 := pm_S3.rf h
  obtain ⟨k1, hf⟩ := pm_if hf
  obtain ⟨v2, e3, hf⟩ := pm_bd hf
  rcases v2 with z5 | w4
  · have hf := pt_kl hf
    cases hf
    exact pm_S3.trans (show pm_S3 z5.2 _ from kpX16_number e3) K0
  have K6 := pm_S3.trans (show pm_S3 w4.2 _ from kpX16_number e3) K0
  have hf := pt_kr hf
  obtain ⟨k7, hf⟩ := pm_if hf
  obtain ⟨v8, e9, hf⟩ := pm_bd hf
  obtain ⟨v10, e11, hf⟩ := pm_bd hf
  have K12 := pm_S3.trans (kpX16_kept e11) K6
  obtain ⟨k13, hf⟩ := pm_if hf
  obtain ⟨n, hn⟩ := pm_lim_iter hf
  exact pt_SV.trans ((klX16_readsImports n).1 a0 w4.1 0 (pm_setI v10.2 v8 8 v10.1) hn) K12
set_option maxHeartbeats 4000000 in
set_option maxRecDepth 100000 in
theorem klX16_readsMemories {r : ((Nat × pm_H) ⊕ pm_H)} : ∀ n : Nat, (∀ (x0 : Nat) (x1 : Int64) (x3 : Int64) (h : pm_H), pm_iter sX16_readsMemories n (x0, x1, x3, h) = some r → pt_SV r h) := by
  intro n
  induction n with
  | zero => exact fun _ _ _ _ hf => (by cases hf)
  | succ n ih =>
    refine fun x0 x1 x3 h hf => ?_
    obtain ⟨y, hf, hi⟩ := pm_iter_s hf
    have hf : tX16_readsMemories_19 x0 x1 x3 h = some y := hf
    unfold tX16_readsMemories_19 at hf
    have K0 := pm_S3.rf h
    by_cases c14 : x1 ≤ x3
    · have hf := pm_it hf c14
      cases hf
      cases hi
      exact K0
    · have hf := pm_ie hf c14
      obtain ⟨k15, hf⟩ := pm_if hf
      obtain ⟨v16, e17, hf⟩ := pm_bd hf
      rcases v16 with z19 | w18
      · have hf := pt_sl hf
        cases hf
        cases hi
        exact pm_S3.trans (show pm_S3 z19.2 _ from kpX16_limits e17) K0
      have K20 := pm_S3.trans (show pm_S3 w18 _ from kpX16_limits e17) K0
      have hf := pt_sr hf
      by_cases c21 : 64 ≤ x3
      · have hf := pm_it hf c21
        obtain ⟨y22, e23, hf⟩ := pm_lt hf
        cases hf
        exact pt_SV.trans (ih x0 x1 y22 w18 hi) K20
      · have hf := pm_ie hf c21
        obtain ⟨k24, hf⟩ := pm_if hf
        obtain ⟨v25, e26, hf⟩ := pm_bd hf
        obtain ⟨k27, hf⟩ := pm_if hf
        obtain ⟨v28, e29, hf⟩ := pm_bd hf
        obtain ⟨y30, e31, hf⟩ := pm_lt hf
        obtain ⟨k32, hf⟩ := pm_if hf
        obtain ⟨u33, hf⟩ := pm_if hf
        obtain ⟨v34, e35, hf⟩ := pm_bd hf
        obtain ⟨y36, e37, hf⟩ := pm_lt hf
        obtain ⟨k38, hf⟩ := pm_if hf
        obtain ⟨u39, hf⟩ := pm_if hf
        obtain ⟨y40, e41, hf⟩ := pm_lt hf
        cases hf
        exact pt_SV.trans (ih x0 x1 y40 (pm_setL (pm_setL w18 v28 x3.toInt32.toNatClampNeg y30) v34 x3.toInt32.toNatClampNeg y36) hi) K20
set_option maxHeartbeats 4000000 in
set_option maxRecDepth 100000 in
theorem kpX16_readsMemories {h : pm_H} {a0 : Nat} {r : ((Nat × pm_H) ⊕ pm_H)} (hf : fX16_readsMemories h a0 = some r) : pt_SV r h := by
  unfold fX16_readsMemories at hf
  have K0 := pm_S3.rf h
  obtain ⟨k1, hf⟩ := pm_if hf
  obtain ⟨v2, e3, hf⟩ := pm_bd hf
  rcases v2 with z5 | w4
  · have hf := pt_kl hf
    cases hf
    exact pm_S3.trans (show pm_S3 z5.2 _ from kpX16_number e3) K0
  have K6 := pm_S3.trans (show pm_S3 w4.2 _ from kpX16_number e3) K0
  have hf := pt_kr hf
  obtain ⟨k7, hf⟩ := pm_if hf
  obtain ⟨v8, e9, hf⟩ := pm_bd hf
  obtain ⟨v10, e11, hf⟩ := pm_bd hf
  have K12 := pm_S3.trans (kpX16_kept e11) K6
  obtain ⟨k13, hf⟩ := pm_if hf
  obtain ⟨n, hn⟩ := pm_lim_iter hf
  exact pt_SV.trans ((klX16_readsMemories n) a0 w4.1 0 (pm_setI v10.2 v8 21 v10.1) hn) K12
set_option maxHeartbeats 4000000 in
set_option maxRecDepth 100000 in
theorem klX16_readsTables {r : ((Nat × pm_H) ⊕ pm_H)} : ∀ n : Nat, (∀ (x0 : Nat) (x1 : Int64) (x3 : Int64) (h : pm_H), pm_iter sX16_readsTables n (x0, x1, x3, h) = some r → pt_SV r h) := by
  intro n
  induction n with
  | zero => exact fun _ _ _ _ hf => (by cases hf)
  | succ n ih =>
    refine fun x0 x1 x3 h hf => ?_
    obtain ⟨y, hf, hi⟩ := pm_iter_s hf
    have hf : tX16_readsTables_19 x0 x1 x3 h = some y := hf
    unfold tX16_readsTables_19 at hf
    have K0 := pm_S3.rf h
    by_cases c14 : x1 ≤ x3
    · have hf := pm_it hf c14
      cases hf
      cases hi
      exact K0
    · have hf := pm_ie hf c14
      obtain ⟨k15, hf⟩ := pm_if hf
      obtain ⟨v16, e17, hf⟩ := pm_bd hf
      rcases v16 with z19 | w18
      · have hf := pt_sl hf
        cases hf
        cases hi
        exact pm_S3.trans (show pm_S3 z19.2 _ from kpX16_referenceType e17) K0
      have K20 := pm_S3.trans (show pm_S3 w18.2 _ from kpX16_referenceType e17) K0
      have hf := pt_sr hf
      obtain ⟨k21, hf⟩ := pm_if hf
      obtain ⟨v22, e23, hf⟩ := pm_bd hf
      rcases v22 with z25 | w24
      · have hf := pt_sl hf
        cases hf
        cases hi
        exact pm_S3.trans (show pm_S3 z25.2 _ from kpX16_limits e23) K20
      have K26 := pm_S3.trans (show pm_S3 w24 _ from kpX16_limits e23) K20
      have hf := pt_sr hf
      by_cases c27 : 64 ≤ x3
      · have hf := pm_it hf c27
        obtain ⟨y28, e29, hf⟩ := pm_lt hf
        cases hf
        exact pt_SV.trans (ih x0 x1 y28 w24 hi) K26
      · have hf := pm_ie hf c27
        obtain ⟨k30, hf⟩ := pm_if hf
        obtain ⟨v31, e32, hf⟩ := pm_bd hf
        obtain ⟨k33, hf⟩ := pm_if hf
        obtain ⟨v34, e35, hf⟩ := pm_bd hf
        obtain ⟨k36, hf⟩ := pm_if hf
        obtain ⟨u37, hf⟩ := pm_if hf
        obtain ⟨v38, e39, hf⟩ := pm_bd hf
        obtain ⟨y40, e41, hf⟩ := pm_lt hf
        obtain ⟨k42, hf⟩ := pm_if hf
        obtain ⟨u43, hf⟩ := pm_if hf
        obtain ⟨v44, e45, hf⟩ := pm_bd hf
        obtain ⟨y46, e47, hf⟩ := pm_lt hf
        obtain ⟨k48, hf⟩ := pm_if hf
        obtain ⟨u49, hf⟩ := pm_if hf
        obtain ⟨y50, e51, hf⟩ := pm_lt hf
        cases hf
        exact pt_SV.trans (ih x0 x1 y50 (pm_setL (pm_setL (pm_setI w24 v34 x3.toInt32.toNatClampNeg w18.1) v38 x3.toInt32.toNatClampNeg y40) v44 x3.toInt32.toNatClampNeg y46) hi) K26
set_option maxHeartbeats 4000000 in
set_option maxRecDepth 100000 in
theorem kpX16_readsTables {h : pm_H} {a0 : Nat} {r : ((Nat × pm_H) ⊕ pm_H)} (hf : fX16_readsTables h a0 = some r) : pt_SV r h := by
  unfold fX16_readsTables at hf
  have K0 := pm_S3.rf h
  obtain ⟨k1, hf⟩ := pm_if hf
  obtain ⟨v2, e3, hf⟩ := pm_bd hf
  rcases v2 with z5 | w4
  · have hf := pt_kl hf
    cases hf
    exact pm_S3.trans (show pm_S3 z5.2 _ from kpX16_number e3) K0
  have K6 := pm_S3.trans (show pm_S3 w4.2 _ from kpX16_number e3) K0
  have hf := pt_kr hf
  obtain ⟨k7, hf⟩ := pm_if hf
  obtain ⟨v8, e9, hf⟩ := pm_bd hf
  obtain ⟨v10, e11, hf⟩ := pm_bd hf
  have K12 := pm_S3.trans (kpX16_kept e11) K6
  obtain ⟨k13, hf⟩ := pm_if hf
  obtain ⟨n, hn⟩ := pm_lim_iter hf
  exact pt_SV.trans ((klX16_readsTables n) a0 w4.1 0 (pm_setI v10.2 v8 17 v10.1) hn) K12
