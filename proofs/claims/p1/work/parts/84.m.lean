set_option maxHeartbeats 4000000 in
set_option maxRecDepth 100000 in
theorem klX16_checksTypes {r : ((Nat × pm_H) ⊕ pm_H)} : ∀ n : Nat, (∀ (x0 : Nat) (x1 : Int32) (h : pm_H), pm_iter sX16_checksTypes n (.inl (x0, x1, h)) = some r → pt_SV r h) ∧ (∀ (x0 : Nat) (x1 : Int32) (h : pm_H), pm_iter sX16_checksTypes n (.inr (x0, x1, h)) = some r → pt_SV r h) := by
  intro n
  induction n with
  | zero => exact ⟨fun _ _ _ hf => (by cases hf), fun _ _ _ hf => (by cases hf)⟩
  | succ n ih =>
    refine ⟨fun x0 x1 h hf => ?_, ?_⟩
    · obtain ⟨y, hf, hi⟩ := pm_iter_s hf
      have hf : tX16_checksTypes_2 x0 x1 h = some y := hf
      unfold tX16_checksTypes_2 at hf
      have K0 := pm_S3.rf h
      obtain ⟨k1, hf⟩ := pm_if hf
      obtain ⟨v2, e3, hf⟩ := pm_bd hf
      obtain ⟨k4, hf⟩ := pm_if hf
      by_cases c5 : (pm_I h v2 8) ≤ x1
      · have hf := pm_it hf c5
        cases hf
        exact pt_SV.trans (ih.2 x0 0 h hi) K0
      · have hf := pm_ie hf c5
        obtain ⟨v6, e7, hf⟩ := pm_bd hf
        obtain ⟨k8, hf⟩ := pm_if hf
        obtain ⟨u9, hf⟩ := pm_if hf
        by_cases c10 : (pm_I h v6 x1.toNatClampNeg) = 0
        · have hf := pm_it hf c10
          obtain ⟨v11, e12, hf⟩ := pm_bd hf
          obtain ⟨k13, hf⟩ := pm_if hf
          obtain ⟨u14, hf⟩ := pm_if hf
          by_cases c15 : (pm_L h v11 x1.toNatClampNeg) < ((pm_I h v2 4).toInt64)
          · have hf := pm_it hf c15
            obtain ⟨y16, e17, hf⟩ := pm_lt hf
            cases hf
            exact pt_SV.trans (ih.1 x0 y16 h hi) K0
          · have hf := pm_ie hf c15
            obtain ⟨v18, e19, hf⟩ := pm_bd hf
            obtain ⟨k20, hf⟩ := pm_if hf
            obtain ⟨u21, hf⟩ := pm_if hf
            obtain ⟨v22, e23, hf⟩ := pm_bd hf
            rcases v22 with z25 | w24
            · have hf := pt_sl hf
              cases hf
              cases hi
              exact pm_S3.trans (show pm_S3 z25.2 _ from kpX16_stops e23) K0
            have K26 := pm_S3.trans (show pm_S3 w24 _ from kpX16_stops e23) K0
            have hf := pt_sr hf
            obtain ⟨y27, e28, hf⟩ := pm_lt hf
            cases hf
            exact pt_SV.trans (ih.1 x0 y27 w24 hi) K26
        · have hf := pm_ie hf c10
          obtain ⟨y29, e30, hf⟩ := pm_lt hf
          cases hf
          exact pt_SV.trans (ih.1 x0 y29 h hi) K0
    refine fun x0 x1 h hf => ?_
    obtain ⟨y, hf, hi⟩ := pm_iter_s hf
    have hf : tX16_checksTypes_69 x0 x1 h = some y := hf
    unfold tX16_checksTypes_69 at hf
    have K0 := pm_S3.rf h
    obtain ⟨k31, hf⟩ := pm_if hf
    obtain ⟨v32, e33, hf⟩ := pm_bd hf
    obtain ⟨k34, hf⟩ := pm_if hf
    by_cases c35 : (pm_I h v32 15) ≤ x1
    · have hf := pm_it hf c35
      cases hf
      cases hi
      exact K0
    · have hf := pm_ie hf c35
      obtain ⟨v36, e37, hf⟩ := pm_bd hf
      obtain ⟨k38, hf⟩ := pm_if hf
      obtain ⟨u39, hf⟩ := pm_if hf
      by_cases c40 : (pm_L h v36 x1.toNatClampNeg) < ((pm_I h v32 4).toInt64)
      · have hf := pm_it hf c40
        obtain ⟨y41, e42, hf⟩ := pm_lt hf
        cases hf
        exact pt_SV.trans (ih.2 x0 y41 h hi) K0
      · have hf := pm_ie hf c40
        obtain ⟨v43, e44, hf⟩ := pm_bd hf
        obtain ⟨k45, hf⟩ := pm_if hf
        obtain ⟨u46, hf⟩ := pm_if hf
        obtain ⟨v47, e48, hf⟩ := pm_bd hf
        rcases v47 with z50 | w49
        · have hf := pt_sl hf
          cases hf
          cases hi
          exact pm_S3.trans (show pm_S3 z50.2 _ from kpX16_stops e48) K0
        have K51 := pm_S3.trans (show pm_S3 w49 _ from kpX16_stops e48) K0
        have hf := pt_sr hf
        obtain ⟨y52, e53, hf⟩ := pm_lt hf
        cases hf
        exact pt_SV.trans (ih.2 x0 y52 w49 hi) K51
set_option maxHeartbeats 4000000 in
set_option maxRecDepth 100000 in
theorem kpX16_checksTypes {h : pm_H} {a0 : Nat} {r : ((Nat × pm_H) ⊕ pm_H)} (hf : fX16_checksTypes h a0 = some r) : pt_SV r h := by
  unfold fX16_checksTypes at hf
  have K0 := pm_S3.rf h
  obtain ⟨n, hn⟩ := pm_lim_iter hf
  exact pt_SV.trans ((klX16_checksTypes n).1 a0 0 h hn) K0
set_option maxHeartbeats 4000000 in
set_option maxRecDepth 100000 in
theorem klX16_constantly {r : ((Nat × pm_H) ⊕ pm_H)} : ∀ n : Nat, (∀ (x0 : Nat) (x1 : Int32) (x2 : Int32) (x3 : Int32) (x4 : Int32) (x5 : Int32) (h : pm_H), pm_iter sX16_constantly n (.inl (x0, x1, x2, x3, x4, x5, h)) = some r → pt_SV r h) ∧ (∀ (x0 : Nat) (x2 : Int32) (x3 : Int32) (x4 : Int32) (x5 : Int32) (x6 : Int32) (h : pm_H), pm_iter sX16_constantly n (.inr (x0, x2, x3, x4, x5, x6, h)) = some r → pt_SV r h) := by
  intro n
  induction n with
  | zero => exact ⟨fun _ _ _ _ _ _ _ hf => (by cases hf), fun _ _ _ _ _ _ _ hf => (by cases hf)⟩
  | succ n ih =>
    refine ⟨fun x0 x1 x2 x3 x4 x5 h hf => ?_, ?_⟩
    · obtain ⟨y, hf, hi⟩ := pm_iter_s hf
      have hf : tX16_constantly_8 x0 x1 x2 x3 x4 x5 h = some y := hf
      unfold tX16_constantly_8 at hf
      have K0 := pm_S3.rf h
      obtain ⟨k1, hf⟩ := pm_if hf
      obtain ⟨v2, e3, hf⟩ := pm_bd hf
      obtain ⟨k4, hf⟩ := pm_if hf
      obtain ⟨v5, e6, hf⟩ := pm_bd hf
      by_cases c7 : v5 = 11
      · have hf := pm_it hf c7
        cases hf
        exact pt_SV.trans (ih.2 x0 x2 x1 x4 x5 x3 h hi) K0
      · have hf := pm_ie hf c7
        obtain ⟨v8, e9, hf⟩ := pm_bd hf
        have K10 := pm_S3.trans (kpX16_constantType e9) K0
        by_cases c11 : v8.1 = 0
        · have hf := pm_it hf c11
          obtain ⟨k12, hf⟩ := pm_if hf
          obtain ⟨v13, e14, hf⟩ := pm_bd hf
          rcases v13 with z16 | w15
          · have hf := pt_sl hf
            cases hf
            cases hi
            exact pm_S3.trans (show pm_S3 z16.2 _ from kpX16_stops e14) K10
          have K17 := pm_S3.trans (show pm_S3 w15 _ from kpX16_stops e14) K10
          have hf := pt_sr hf
          obtain ⟨y18, e19, hf⟩ := pm_lt hf
          obtain ⟨k20, hf⟩ := pm_if hf
          obtain ⟨v21, e22, hf⟩ := pm_bd hf
          have K23 := pm_S3.trans (kpX16_behind e22) K17
          cases hf
          exact pt_SV.trans (ih.1 x0 x1 x2 v21.1 y18 v8.1 v21.2 hi) K23
        · have hf := pm_ie hf c11
          obtain ⟨y24, e25, hf⟩ := pm_lt hf
          obtain ⟨k26, hf⟩ := pm_if hf
          obtain ⟨v27, e28, hf⟩ := pm_bd hf
          have K29 := pm_S3.trans (kpX16_behind e28) K10
          cases hf
          exact pt_SV.trans (ih.1 x0 x1 x2 v27.1 y24 v8.1 v27.2 hi) K29
    refine fun x0 x2 x3 x4 x5 x6 h hf => ?_
    obtain ⟨y, hf, hi⟩ := pm_iter_s hf
    have hf : tX16_constantly_57 x0 x2 x3 x4 x5 x6 h = some y := hf
    unfold tX16_constantly_57 at hf
    have K0 := pm_S3.rf h
    by_cases c30 : x6 ≤ x3
    · have hf := pm_it hf c30
      by_cases c31 : x4 = 1
      · have hf := pm_it hf c31
        by_cases c32 : x5 = x2
        · have hf := pm_it hf c32
          obtain ⟨y33, e34, hf⟩ := pm_lt hf
          obtain ⟨k35, hf⟩ := pm_if hf
          cases hf
          cases hi
          exact K0
        · have hf := pm_ie hf c32
          obtain ⟨k36, hf⟩ := pm_if hf
          obtain ⟨v37, e38, hf⟩ := pm_bd hf
          rcases v37 with z40 | w39
          · have hf := pt_sl hf
            cases hf
            cases hi
            exact pm_S3.trans (show pm_S3 z40.2 _ from kpX16_stops e38) K0
          have K41 := pm_S3.trans (show pm_S3 w39 _ from kpX16_stops e38) K0
          have hf := pt_sr hf
          obtain ⟨y42, e43, hf⟩ := pm_lt hf
          obtain ⟨k44, hf⟩ := pm_if hf
          cases hf
          cases hi
          exact K41
      · have hf := pm_ie hf c31
        obtain ⟨k45, hf⟩ := pm_if hf
        obtain ⟨v46, e47, hf⟩ := pm_bd hf
        rcases v46 with z49 | w48
        · have hf := pt_sl hf
          cases hf
          cases hi
          exact pm_S3.trans (show pm_S3 z49.2 _ from kpX16_stops e47) K0
        have K50 := pm_S3.trans (show pm_S3 w48 _ from kpX16_stops e47) K0
        have hf := pt_sr hf
        obtain ⟨y51, e52, hf⟩ := pm_lt hf
        obtain ⟨k53, hf⟩ := pm_if hf
        cases hf
        cases hi
        exact K50
    · have hf := pm_ie hf c30
      obtain ⟨y54, e55, hf⟩ := pm_lt hf
      obtain ⟨k56, hf⟩ := pm_if hf
      obtain ⟨v57, e58, hf⟩ := pm_bd hf
      obtain ⟨k59, hf⟩ := pm_if hf
      obtain ⟨v60, e61, hf⟩ := pm_bd hf
      by_cases c62 : v60 = 210
      · have hf := pm_it hf c62
        obtain ⟨v63, e64, hf⟩ := pm_bd hf
        have K65 := pm_S3.trans (kpX16_word e64) K0
        obtain ⟨k66, hf⟩ := pm_if hf
        obtain ⟨v67, e68, hf⟩ := pm_bd hf
        obtain ⟨k69, hf⟩ := pm_if hf
        obtain ⟨v70, e71, hf⟩ := pm_bd hf
        by_cases c72 : v63.1 < v70.toInt64
        · have hf := pm_it hf c72
          obtain ⟨v73, e74, hf⟩ := pm_bd hf
          have K75 := pm_S3.trans (kpX16_behind e74) K65
          cases hf
          exact pt_SV.trans (ih.2 x0 x2 v73.1 x4 x5 x6 v73.2 hi) K75
        · have hf := pm_ie hf c72
          obtain ⟨v76, e77, hf⟩ := pm_bd hf
          rcases v76 with z79 | w78
          · have hf := pt_sl hf
            cases hf
            cases hi
            exact pm_S3.trans (show pm_S3 z79.2 _ from kpX16_stops e77) K65
          have K80 := pm_S3.trans (show pm_S3 w78 _ from kpX16_stops e77) K65
          have hf := pt_sr hf
          obtain ⟨k81, hf⟩ := pm_if hf
          obtain ⟨v82, e83, hf⟩ := pm_bd hf
          have K84 := pm_S3.trans (kpX16_behind e83) K80
          cases hf
          exact pt_SV.trans (ih.2 x0 x2 v82.1 x4 x5 x6 v82.2 hi) K84
      · have hf := pm_ie hf c62
        obtain ⟨v85, e86, hf⟩ := pm_bd hf
        have K87 := pm_S3.trans (kpX16_behind e86) K0
        cases hf
        exact pt_SV.trans (ih.2 x0 x2 v85.1 x4 x5 x6 v85.2 hi) K87
set_option maxHeartbeats 4000000 in
set_option maxRecDepth 100000 in
theorem kpX16_constantly {h : pm_H} {a0 : Nat} {p1 : Int32} {p2 : Int32} {r : ((Nat × pm_H) ⊕ pm_H)} (hf : fX16_constantly h a0 p1 p2 = some r) : pt_SV r h := by
  unfold fX16_constantly at hf
  have K0 := pm_S3.rf h
  obtain ⟨n, hn⟩ := pm_lim_iter hf
  exact pt_SV.trans ((klX16_constantly n).1 a0 p1 p2 p1 0 0 h hn) K0
set_option maxHeartbeats 4000000 in
set_option maxRecDepth 100000 in
theorem kpX16_next {h : pm_H} {a0 : Nat} {r : ((Nat × pm_H) ⊕ (Int32 × pm_H))} (hf : fX16_next h a0 = some r) : pt_SI r h := by
  unfold fX16_next at hf
  have K0 := pm_S3.rf h
  obtain ⟨k1, hf⟩ := pm_if hf
  by_cases c2 : (pm_I h a0 11) < (pm_I h a0 12)
  · have hf := pm_it hf c2
    obtain ⟨y3, e4, hf⟩ := pm_lt hf
    obtain ⟨v5, e6, hf⟩ := pm_bd hf
    obtain ⟨k7, hf⟩ := pm_if hf
    obtain ⟨v8, e9, hf⟩ := pm_bd hf
    cases hf
    exact K0
  · have hf := pm_ie hf c2
    obtain ⟨v10, e11, hf⟩ := pm_bd hf
    rcases v10 with z13 | w12
    · have hf := pt_kl hf
      cases hf
      exact pm_S3.trans (show pm_S3 z13.2 _ from kpX16_stops e11) K0
    have K14 := pm_S3.trans (show pm_S3 w12 _ from kpX16_stops e11) K0
    have hf := pt_kr hf
    obtain ⟨k15, hf⟩ := pm_if hf
    obtain ⟨y16, e17, hf⟩ := pm_lt hf
    obtain ⟨v18, e19, hf⟩ := pm_bd hf
    obtain ⟨k20, hf⟩ := pm_if hf
    obtain ⟨v21, e22, hf⟩ := pm_bd hf
    cases hf
    exact K14
set_option maxHeartbeats 4000000 in
set_option maxRecDepth 100000 in
theorem klX16_number {r : ((Nat × pm_H) ⊕ (Int64 × pm_H))} : ∀ n : Nat, (∀ (x0 : Nat) (x1 : Int64) (x3 : Int32) (h : pm_H), pm_iter sX16_number n (.inl (x0, x1, x3, h)) = some r → pt_SJ r h) ∧ (∀ (x0 : Nat) (x1 : Int64) (x3 : Int32) (x4 : Int32) (h : pm_H), pm_iter sX16_number n (.inr (x0, x1, x3, x4, h)) = some r → pt_SJ r h) := by
  intro n
  induction n with
  | zero => exact ⟨fun _ _ _ _ hf => (by cases hf), fun _ _ _ _ _ hf => (by cases hf)⟩
  | succ n ih =>
    refine ⟨fun x0 x1 x3 h hf => ?_, ?_⟩
    · obtain ⟨y, hf, hi⟩ := pm_iter_s hf
      have hf : tX16_number_4 x0 x1 x3 h = some y := hf
      unfold tX16_number_4 at hf
      have K0 := pm_S3.rf h
      by_cases c1 : 5 ≤ x3
      · have hf := pm_it hf c1
        cases hf
        cases hi
        exact K0
      · have hf := pm_ie hf c1
        obtain ⟨k2, hf⟩ := pm_if hf
        obtain ⟨v3, e4, hf⟩ := pm_bd hf
        rcases v3 with z6 | w5
        · have hf := pt_sl hf
          cases hf
          cases hi
          exact pm_S3.trans (show pm_S3 z6.2 _ from kpX16_next e4) K0
        have K7 := pm_S3.trans (show pm_S3 w5.2 _ from kpX16_next e4) K0
        have hf := pt_sr hf
        by_cases c8 : x3 = 4
        · have hf := pm_it hf c8
          by_cases c9 : w5.1 ≤ 15
          · have hf := pm_it hf c9
            cases hf
            exact pt_SJ.trans (ih.2 x0 x1 x3 w5.1 w5.2 hi) K7
          · have hf := pm_ie hf c9
            obtain ⟨k10, hf⟩ := pm_if hf
            obtain ⟨v11, e12, hf⟩ := pm_bd hf
            rcases v11 with z14 | w13
            · have hf := pt_sl hf
              cases hf
              cases hi
              exact pm_S3.trans (show pm_S3 z14.2 _ from kpX16_stops e12) K7
            have K15 := pm_S3.trans (show pm_S3 w13 _ from kpX16_stops e12) K7
            have hf := pt_sr hf
            cases hf
            exact pt_SJ.trans (ih.2 x0 x1 x3 w5.1 w13 hi) K15
        · have hf := pm_ie hf c8
          cases hf
          exact pt_SJ.trans (ih.2 x0 x1 x3 w5.1 w5.2 hi) K7
    refine fun x0 x1 x3 x4 h hf => ?_
    obtain ⟨y, hf, hi⟩ := pm_iter_s hf
    have hf : tX16_number_38 x0 x1 x3 x4 h = some y := hf
    unfold tX16_number_38 at hf
    have K0 := pm_S3.rf h
    obtain ⟨y16, e17, hf⟩ := pm_lt hf
    by_cases c18 : 128 ≤ x4
    · have hf := pm_it hf c18
      obtain ⟨y19, e20, hf⟩ := pm_lt hf
      cases hf
      exact pt_SJ.trans (ih.1 x0 y16 y19 h hi) K0
    · have hf := pm_ie hf c18
      cases hf
      cases hi
      exact K0
set_option maxHeartbeats 4000000 in
set_option maxRecDepth 100000 in
theorem kpX16_number {h : pm_H} {a0 : Nat} {r : ((Nat × pm_H) ⊕ (Int64 × pm_H))} (hf : fX16_number h a0 = some r) : pt_SJ r h := by
  unfold fX16_number at hf
  have K0 := pm_S3.rf h
  obtain ⟨n, hn⟩ := pm_lim_iter hf
  exact pt_SJ.trans ((klX16_number n).1 a0 0 0 h hn) K0
set_option maxHeartbeats 4000000 in
set_option maxRecDepth 100000 in
theorem kpX16_put {h : pm_H} {a0 : Nat} {p1 : Int32} {r : ((Nat × pm_H) ⊕ pm_H)} (hf : fX16_put h a0 p1 = some r) : pt_SV r h := by
  unfold fX16_put at hf
  have K0 := pm_S3.rf h
  obtain ⟨k1, hf⟩ := pm_if hf
  by_cases c2 : (pm_I h a0 23) = 1000
  · have hf := pm_it hf c2
    obtain ⟨v3, e4, hf⟩ := pm_bd hf
    rcases v3 with z6 | w5
    · have hf := pt_kl hf
      cases hf
      exact pm_S3.trans (show pm_S3 z6.2 _ from kpX16_stops e4) K0
    have K7 := pm_S3.trans (show pm_S3 w5 _ from kpX16_stops e4) K0
    have hf := pt_kr hf
    obtain ⟨k8, hf⟩ := pm_if hf
    obtain ⟨v9, e10, hf⟩ := pm_bd hf
    obtain ⟨k11, hf⟩ := pm_if hf
    obtain ⟨u12, hf⟩ := pm_if hf
    obtain ⟨y13, e14, hf⟩ := pm_lt hf
    cases hf
    exact K7
  · have hf := pm_ie hf c2
    obtain ⟨v15, e16, hf⟩ := pm_bd hf
    obtain ⟨k17, hf⟩ := pm_if hf
    obtain ⟨u18, hf⟩ := pm_if hf
    obtain ⟨y19, e20, hf⟩ := pm_lt hf
    cases hf
    exact K0
set_option maxHeartbeats 4000000 in
set_option maxRecDepth 100000 in
theorem klX16_putParameters {r : ((Nat × pm_H) ⊕ pm_H)} : ∀ n : Nat, (∀ (x0 : Nat) (x1 : Int64) (x3 : Int32) (h : pm_H), pm_iter sX16_putParameters n (x0, x1, x3, h) = some r → pt_SV r h) := by
  intro n
  induction n with
  | zero => exact fun _ _ _ _ hf => (by cases hf)
  | succ n ih =>
    refine fun x0 x1 x3 h hf => ?_
    obtain ⟨y, hf, hi⟩ := pm_iter_s hf
    have hf : tX16_putParameters_2 x0 x1 x3 h = some y := hf
    unfold tX16_putParameters_2 at hf
    have K0 := pm_S3.rf h
    obtain ⟨k1, hf⟩ := pm_if hf
    obtain ⟨v2, e3, hf⟩ := pm_bd hf
    by_cases c4 : v2 ≤ x3
    · have hf := pm_it hf c4
      cases hf
      cases hi
      exact K0
    · have hf := pm_ie hf c4
      obtain ⟨v5, e6, hf⟩ := pm_bd hf
      obtain ⟨v7, e8, hf⟩ := pm_bd hf
      rcases v7 with z10 | w9
      · have hf := pt_sl hf
        cases hf
        cases hi
        exact pm_S3.trans (show pm_S3 z10.2 _ from kpX16_put e8) K0
      have K11 := pm_S3.trans (show pm_S3 w9 _ from kpX16_put e8) K0
      have hf := pt_sr hf
      obtain ⟨y12, e13, hf⟩ := pm_lt hf
      cases hf
      exact pt_SV.trans (ih x0 x1 y12 w9 hi) K11
set_option maxHeartbeats 4000000 in
set_option maxRecDepth 100000 in
theorem kpX16_putParameters {h : pm_H} {a0 : Nat} {p1 : Int64} {r : ((Nat × pm_H) ⊕ pm_H)} (hf : fX16_putParameters h a0 p1 = some r) : pt_SV r h := by
  unfold fX16_putParameters at hf
  have K0 := pm_S3.rf h
  obtain ⟨n, hn⟩ := pm_lim_iter hf
  exact pt_SV.trans ((klX16_putParameters n) a0 p1 0 h hn) K0
set_option maxHeartbeats 4000000 in
set_option maxRecDepth 100000 in
theorem klX16_putResults {r : ((Nat × pm_H) ⊕ pm_H)} : ∀ n : Nat, (∀ (x0 : Nat) (x1 : Int64) (x3 : Int32) (h : pm_H), pm_iter sX16_putResults n (x0, x1, x3, h) = some r → pt_SV r h) := by
  intro n
  induction n with
  | zero => exact fun _ _ _ _ hf => (by cases hf)
  | succ n ih =>
    refine fun x0 x1 x3 h hf => ?_
    obtain ⟨y, hf, hi⟩ := pm_iter_s hf
    have hf : tX16_putResults_2 x0 x1 x3 h = some y := hf
    unfold tX16_putResults_2 at hf
    have K0 := pm_S3.rf h
    obtain ⟨k1, hf⟩ := pm_if hf
    obtain ⟨v2, e3, hf⟩ := pm_bd hf
    by_cases c4 : v2 ≤ x3
    · have hf := pm_it hf c4
      cases hf
      cases hi
      exact K0
    · have hf := pm_ie hf c4
      obtain ⟨v5, e6, hf⟩ := pm_bd hf
      obtain ⟨v7, e8, hf⟩ := pm_bd hf
      rcases v7 with z10 | w9
      · have hf := pt_sl hf
        cases hf
        cases hi
        exact pm_S3.trans (show pm_S3 z10.2 _ from kpX16_put e8) K0
      have K11 := pm_S3.trans (show pm_S3 w9 _ from kpX16_put e8) K0
      have hf := pt_sr hf
      obtain ⟨y12, e13, hf⟩ := pm_lt hf
      cases hf
      exact pt_SV.trans (ih x0 x1 y12 w9 hi) K11
set_option maxHeartbeats 4000000 in
set_option maxRecDepth 100000 in
theorem kpX16_putResults {h : pm_H} {a0 : Nat} {p1 : Int64} {r : ((Nat × pm_H) ⊕ pm_H)} (hf : fX16_putResults h a0 p1 = some r) : pt_SV r h := by
  unfold fX16_putResults at hf
  have K0 := pm_S3.rf h
  obtain ⟨n, hn⟩ := pm_lim_iter hf
  exact pt_SV.trans ((klX16_putResults n) a0 p1 0 h hn) K0
set_option maxHeartbeats 4000000 in
set_option maxRecDepth 100000 in
theorem klX16_readsFunctions {r : ((Nat × pm_H) ⊕ pm_H)} : ∀ n : Nat, (∀ (x0 : Nat) (x1 : Int64) (x3 : Int64) (h : pm_H), pm_iter sX16_readsFunctions n (x0, x1, x3, h) = some r → pt_SV r h) := by
  intro n
  induction n with
  | zero => exact fun _ _ _ _ hf => (by cases hf)
  | succ n ih =>
    refine fun x0 x1 x3 h hf => ?_
    obtain ⟨y, hf, hi⟩ := pm_iter_s hf
    have hf : tX16_readsFunctions_27 x0 x1 x3 h = some y := hf
    unfold tX16_readsFunctions_27 at hf
    have K0 := pm_S3.rf h
    by_cases c15 : x1 ≤ x3
    · have hf := pm_it hf c15
      cases hf
      cases hi
      exact K0
    · have hf := pm_ie hf c15
      obtain ⟨k16, hf⟩ := pm_if hf
      obtain ⟨v17, e18, hf⟩ := pm_bd hf
      rcases v17 with z20 | w19
      · have hf := pt_sl hf
        cases hf
        cases hi
        exact pm_S3.trans (show pm_S3 z20.2 _ from kpX16_number e18) K0
      have K21 := pm_S3.trans (show pm_S3 w19.2 _ from kpX16_number e18) K0
      have hf := pt_sr hf
      by_cases c22 : 64 ≤ x3
      · have hf := pm_it hf c22
        obtain ⟨y23, e24, hf⟩ := pm_lt hf
        cases hf
        exact pt_SV.trans (ih x0 x1 y23 w19.2 hi) K21
      · have hf := pm_ie hf c22
        obtain ⟨k25, hf⟩ := pm_if hf
        obtain ⟨v26, e27, hf⟩ := pm_bd hf
        obtain ⟨k28, hf⟩ := pm_if hf
        obtain ⟨v29, e30, hf⟩ := pm_bd hf
        obtain ⟨k31, hf⟩ := pm_if hf
        obtain ⟨u32, hf⟩ := pm_if hf
        obtain ⟨y33, e34, hf⟩ := pm_lt hf
        cases hf
        exact pt_SV.trans (ih x0 x1 y33 (pm_setL w19.2 v29 x3.toInt32.toNatClampNeg w19.1) hi) K21
set_option maxHeartbeats 4000000 in
set_option maxRecDepth 100000 in
theorem kpX16_readsFunctions {h : pm_H} {a0 : Nat} {r : ((Nat × pm_H) ⊕ pm_H)} (hf : fX16_readsFunctions h a0 = some r) : pt_SV r h := by
  unfold fX16_readsFunctions at hf
  have K0 := pm_S3.rf h
  obtain ⟨k1, hf⟩ := pm_if hf
  obtain ⟨v2, e3, hf⟩ := pm_bd hf
  rcases v2 with z5 | w4
  · have hf := pt_kl hf
    cases hf
    exact pm_S3.trans (show pm_S3 z5.2 _ from kpX16_number e3) K0
  have K6 := pm_S3.trans (show pm_S3 w4.2 _ from kpX16_number e3) K0
  have hf := pt_kr hf
  obtain ⟨k7, hf⟩ := pm_if hf
  obtain ⟨v8, e9, hf⟩ := pm_bd hf
  obtain ⟨k10, hf⟩ := pm_if hf
  obtain ⟨v11, e12, hf⟩ := pm_bd hf
  have K13 := pm_S3.trans (kpX16_kept e12) K6
  obtain ⟨k14, hf⟩ := pm_if hf
  obtain ⟨n, hn⟩ := pm_lim_iter hf
  exact pt_SV.trans ((klX16_readsFunctions n) a0 w4.1 0 (pm_setI v11.2 v8 15 v11.1) hn) K13
set_option maxHeartbeats 4000000 in
set_option maxRecDepth 100000 in
theorem kpX16_referenceType {h : pm_H} {a0 : Nat} {r : ((Nat × pm_H) ⊕ (Int32 × pm_H))} (hf : fX16_referenceType h a0 = some r) : pt_SI r h := by
  unfold fX16_referenceType at hf
  have K0 := pm_S3.rf h
  obtain ⟨k1, hf⟩ := pm_if hf
  obtain ⟨v2, e3, hf⟩ := pm_bd hf
  rcases v2 with z5 | w4
  · have hf := pt_kl hf
    cases hf
    exact pm_S3.trans (show pm_S3 z5.2 _ from kpX16_next e3) K0
  have K6 := pm_S3.trans (show pm_S3 w4.2 _ from kpX16_next e3) K0
  have hf := pt_kr hf
  obtain ⟨v7, e8, hf⟩ := pm_lt hf
  by_cases c9 : v7 = 0
  · have hf := pm_it hf c9
    obtain ⟨k10, hf⟩ := pm_if hf
    obtain ⟨v11, e12, hf⟩ := pm_bd hf
    rcases v11 with z14 | w13
    · have hf := pt_kl hf
      cases hf
      exact pm_S3.trans (show pm_S3 z14.2 _ from kpX16_stops e12) K6
    have K15 := pm_S3.trans (show pm_S3 w13 _ from kpX16_stops e12) K6
    have hf := pt_kr hf
    cases hf
    exact K15
  · have hf := pm_ie hf c9
    cases hf
    exact K6
set_option maxHeartbeats 4000000 in
set_option maxRecDepth 100000 in
theorem kpX16_selects_b53 {h : pm_H} {x0 : Nat} {x1 : Int32} {x2 : Int32} {s0 : Int32} {r : ((Nat × pm_H) ⊕ pm_H)} (hf : fX16_selects_b53 h x0 x1 x2 s0 = some r) : pt_SV r h := by
  unfold fX16_selects_b53 at hf
  have K0 := pm_S3.rf h
  by_cases c28 : s0 = 0
  · have hf := pm_it hf c28
    obtain ⟨k29, hf⟩ := pm_if hf
    obtain ⟨v30, e31, hf⟩ := pm_bd hf
    rcases v30 with z33 | w32
    · have hf := pt_kl hf
      cases hf
      exact pm_S3.trans (show pm_S3 z33.2 _ from kpX16_stops e31) K0
    have K34 := pm_S3.trans (show pm_S3 w32 _ from kpX16_stops e31) K0
    have hf := pt_kr hf
    by_cases c35 : x1 = (-1)
    · have hf := pm_it hf c35
      obtain ⟨k36, hf⟩ := pm_if hf
      obtain ⟨v37, e38, hf⟩ := pm_bd hf
      rcases v37 with z40 | w39
      · have hf := pt_kl hf
        cases hf
        exact pm_S3.trans (show pm_S3 z40.2 _ from kpX16_put e38) K34
      have K41 := pm_S3.trans (show pm_S3 w39 _ from kpX16_put e38) K34
      have hf := pt_kr hf
      cases hf
      exact K41
    · have hf := pm_ie hf c35
      obtain ⟨k42, hf⟩ := pm_if hf
      obtain ⟨v43, e44, hf⟩ := pm_bd hf
      rcases v43 with z46 | w45
      · have hf := pt_kl hf
        cases hf
        exact pm_S3.trans (show pm_S3 z46.2 _ from kpX16_put e44) K34
      have K47 := pm_S3.trans (show pm_S3 w45 _ from kpX16_put e44) K34
      have hf := pt_kr hf
      cases hf
      exact K47
  · have hf := pm_ie hf c28
    by_cases c48 : x1 = (-1)
    · have hf := pm_it hf c48
      obtain ⟨k49, hf⟩ := pm_if hf
      obtain ⟨v50, e51, hf⟩ := pm_bd hf
      rcases v50 with z53 | w52
      · have hf := pt_kl hf
        cases hf
        exact pm_S3.trans (show pm_S3 z53.2 _ from kpX16_put e51) K0
      have K54 := pm_S3.trans (show pm_S3 w52 _ from kpX16_put e51) K0
      have hf := pt_kr hf
      cases hf
      exact K54
    · have hf := pm_ie hf c48
      obtain ⟨k55, hf⟩ := pm_if hf
      obtain ⟨v56, e57, hf⟩ := pm_bd hf
      rcases v56 with z59 | w58
      · have hf := pt_kl hf
        cases hf
        exact pm_S3.trans (show pm_S3 z59.2 _ from kpX16_put e57) K0
      have K60 := pm_S3.trans (show pm_S3 w58 _ from kpX16_put e57) K0
      have hf := pt_kr hf
      cases hf
      exact K60
set_option maxHeartbeats 4000000 in
set_option maxRecDepth 100000 in
theorem kpX16_selects_b48 {h : pm_H} {x0 : Nat} {x1 : Int32} {x2 : Int32} {r : ((Nat × pm_H) ⊕ pm_H)} (hf : fX16_selects_b48 h x0 x1 x2 = some r) : pt_SV r h := by
  unfold fX16_selects_b48 at hf
  have K0 := pm_S3.rf h
  exact pt_SV.trans (kpX16_selects_b53 hf) K0
set_option maxHeartbeats 4000000 in
set_option maxRecDepth 100000 in
theorem kpX16_selects_b52 {h : pm_H} {x0 : Nat} {x1 : Int32} {x2 : Int32} {r : ((Nat × pm_H) ⊕ pm_H)} (hf : fX16_selects_b52 h x0 x1 x2 = some r) : pt_SV r h := by
  unfold fX16_selects_b52 at hf
  have K0 := pm_S3.rf h
  exact pt_SV.trans (kpX16_selects_b53 hf) K0
set_option maxHeartbeats 4000000 in
set_option maxRecDepth 100000 in
theorem kpX16_selects {h : pm_H} {a0 : Nat} {r : ((Nat × pm_H) ⊕ pm_H)} (hf : fX16_selects h a0 = some r) : pt_SV r h := by
  unfold fX16_selects at hf
  have K0 := pm_S3.rf h
  obtain ⟨k1, hf⟩ := pm_if hf
  obtain ⟨v2, e3, hf⟩ := pm_bd hf
  rcases v2 with z5 | w4
  · have hf := pt_kl hf
    cases hf
    exact pm_S3.trans (show pm_S3 z5.2 _ from kpX16_takes e3) K0
  have K6 := pm_S3.trans (show pm_S3 w4 _ from kpX16_takes e3) K0
  have hf := pt_kr hf
  obtain ⟨k7, hf⟩ := pm_if hf
  obtain ⟨v8, e9, hf⟩ := pm_bd hf
  rcases v8 with z11 | w10
  · have hf := pt_kl hf
    cases hf
    exact pm_S3.trans (show pm_S3 z11.2 _ from kpX16_take e9) K6
  have K12 := pm_S3.trans (show pm_S3 w10.2 _ from kpX16_take e9) K6
  have hf := pt_kr hf
  obtain ⟨k13, hf⟩ := pm_if hf
  obtain ⟨v14, e15, hf⟩ := pm_bd hf
  rcases v14 with z17 | w16
  · have hf := pt_kl hf
    cases hf
    exact pm_S3.trans (show pm_S3 z17.2 _ from kpX16_take e15) K12
  have K18 := pm_S3.trans (show pm_S3 w16.2 _ from kpX16_take e15) K12
  have hf := pt_kr hf
  obtain ⟨v19, e20, hf⟩ := pm_lt hf
  by_cases c21 : v19 = 0
  · have hf := pm_it hf c21
    obtain ⟨v22, e23, hf⟩ := pm_lt hf
    by_cases c24 : v22 = 0
    · have hf := pm_it hf c24
      by_cases c25 : w10.1 = (-1)
      · have hf := pm_it hf c25
        exact pt_SV.trans (kpX16_selects_b48 hf) K18
      · have hf := pm_ie hf c25
        by_cases c26 : w16.1 = (-1)
        · have hf := pm_it hf c26
          exact pt_SV.trans (kpX16_selects_b48 hf) K18
        · have hf := pm_ie hf c26
          by_cases c27 : w10.1 = w16.1
          · have hf := pm_it hf c27
            exact pt_SV.trans (kpX16_selects_b48 hf) K18
          · have hf := pm_ie hf c27
            exact pt_SV.trans (kpX16_selects_b52 hf) K18
    · have hf := pm_ie hf c24
      exact pt_SV.trans (kpX16_selects_b52 hf) K18
  · have hf := pm_ie hf c21
    exact pt_SV.trans (kpX16_selects_b52 hf) K18
set_option maxHeartbeats 4000000 in
set_option maxRecDepth 100000 in
theorem klX16_signed {r : ((Nat × pm_H) ⊕ (Int64 × pm_H))} : ∀ n : Nat, (∀ (x0 : Nat) (x1 : Int32) (x2 : Int32) (x3 : Int64) (x5 : Int32) (h : pm_H), pm_iter sX16_signed n (.inl (x0, x1, x2, x3, x5, h)) = some r → pt_SJ r h) ∧ (∀ (x0 : Nat) (x1 : Int32) (x2 : Int32) (x3 : Int64) (x5 : Int32) (x6 : Int32) (h : pm_H), pm_iter sX16_signed n (.inr (.inl (x0, x1, x2, x3, x5, x6, h))) = some r → pt_SJ r h) ∧ (∀ (x0 : Nat) (x1 : Int32) (x2 : Int32) (x3 : Int64) (x5 : Int32) (x6 : Int32) (s0 : Int32) (s1 : Int32) (h : pm_H), pm_iter sX16_signed n (.inr (.inr (x0, x1, x2, x3, x5, x6, s0, s1, h))) = some r → pt_SJ r h) := by
  intro n
  induction n with
  | zero => exact ⟨fun _ _ _ _ _ _ hf => (by cases hf), fun _ _ _ _ _ _ _ hf => (by cases hf), fun _ _ _ _ _ _ _ _ _ hf => (by cases hf)⟩
  | succ n ih =>
    refine ⟨fun x0 x1 x2 x3 x5 h hf => ?_, ?_⟩
    · obtain ⟨y, hf, hi⟩ := pm_iter_s hf
      have hf : tX16_signed_18 x0 x1 x2 x3 x5 h = some y := hf
      unfold tX16_signed_18 at hf
      have K0 := pm_S3.rf h
      by_cases c2 : x2 ≤ x5
      · have hf := pm_it hf c2
        cases hf
        cases hi
        exact K0
      · have hf := pm_ie hf c2
        obtain ⟨k3, hf⟩ := pm_if hf
        obtain ⟨v4, e5, hf⟩ := pm_bd hf
        rcases v4 with z7 | w6
        · have hf := pt_sl hf
          cases hf
          cases hi
          exact pm_S3.trans (show pm_S3 z7.2 _ from kpX16_next e5) K0
        have K8 := pm_S3.trans (show pm_S3 w6.2 _ from kpX16_next e5) K0
        have hf := pt_sr hf
        by_cases c9 : x5 = (x2 - 1)
        · have hf := pm_it hf c9
          obtain ⟨y10, e11, hf⟩ := pm_lt hf
          obtain ⟨y12, e13, hf⟩ := pm_lt hf
          obtain ⟨y14, e15, hf⟩ := pm_lt hf
          by_cases c16 : 127 < w6.1
          · have hf := pm_it hf c16
            obtain ⟨k17, hf⟩ := pm_if hf
            obtain ⟨v18, e19, hf⟩ := pm_bd hf
            rcases v18 with z21 | w20
            · have hf := pt_sl hf
              cases hf
              cases hi
              exact pm_S3.trans (show pm_S3 z21.2 _ from kpX16_stops e19) K8
            have K22 := pm_S3.trans (show pm_S3 w20 _ from kpX16_stops e19) K8
            have hf := pt_sr hf
            cases hf
            exact pt_SJ.trans (ih.2.1 x0 x1 x2 x3 x5 w6.1 w20 hi) K22
          · have hf := pm_ie hf c16
            by_cases c23 : y14 = 1
            · have hf := pm_it hf c23
              cases hf
              exact pt_SJ.trans (ih.2.2 x0 x1 x2 x3 x5 w6.1 (((1 : Int32) <<< ((7 - y10) &&& 31)) - 1) y12 w6.2 hi) K8
            · have hf := pm_ie hf c23
              cases hf
              exact pt_SJ.trans (ih.2.2 x0 x1 x2 x3 x5 w6.1 0 y12 w6.2 hi) K8
        · have hf := pm_ie hf c9
          cases hf
          exact pt_SJ.trans (ih.2.1 x0 x1 x2 x3 x5 w6.1 w6.2 hi) K8
    refine ⟨fun x0 x1 x2 x3 x5 x6 h hf => ?_, ?_⟩
    · obtain ⟨y, hf, hi⟩ := pm_iter_s hf
      have hf : tX16_signed_110 x0 x1 x2 x3 x5 x6 h = some y := hf
      unfold tX16_signed_110 at hf
      have K0 := pm_S3.rf h
      obtain ⟨y24, e25, hf⟩ := pm_lt hf
      by_cases c26 : 128 ≤ x6
      · have hf := pm_it hf c26
        obtain ⟨y27, e28, hf⟩ := pm_lt hf
        cases hf
        exact pt_SJ.trans (ih.1 x0 x1 x2 y24 y27 h hi) K0
      · have hf := pm_ie hf c26
        by_cases c29 : 64 ≤ ((7 * x5) + 7)
        · have hf := pm_it hf c29
          cases hf
          cases hi
          exact K0
        · have hf := pm_ie hf c29
          by_cases c30 : (x6 &&& 64) = 0
          · have hf := pm_it hf c30
            cases hf
            cases hi
            exact K0
          · have hf := pm_ie hf c30
            cases hf
            cases hi
            exact K0
    refine fun x0 x1 x2 x3 x5 x6 s0 s1 h hf => ?_
    obtain ⟨y, hf, hi⟩ := pm_iter_s hf
    have hf : tX16_signed_96 x0 x1 x2 x3 x5 x6 s0 s1 h = some y := hf
    unfold tX16_signed_96 at hf
    have K0 := pm_S3.rf h
    by_cases c31 : s1 = s0
    · have hf := pm_it hf c31
      cases hf
      exact pt_SJ.trans (ih.2.1 x0 x1 x2 x3 x5 x6 h hi) K0
    · have hf := pm_ie hf c31
      obtain ⟨k32, hf⟩ := pm_if hf
      obtain ⟨v33, e34, hf⟩ := pm_bd hf
      rcases v33 with z36 | w35
      · have hf := pt_sl hf
        cases hf
        cases hi
        exact pm_S3.trans (show pm_S3 z36.2 _ from kpX16_stops e34) K0
      have K37 := pm_S3.trans (show pm_S3 w35 _ from kpX16_stops e34) K0
      have hf := pt_sr hf
      cases hf
      exact pt_SJ.trans (ih.2.1 x0 x1 x2 x3 x5 x6 w35 hi) K37
set_option maxHeartbeats 4000000 in
set_option maxRecDepth 100000 in
theorem kpX16_signed {h : pm_H} {a0 : Nat} {p1 : Int32} {r : ((Nat × pm_H) ⊕ (Int64 × pm_H))} (hf : fX16_signed h a0 p1 = some r) : pt_SJ r h := by
  unfold fX16_signed at hf
  have K0 := pm_S3.rf h
  by_cases c1 : p1 = 64
  · have hf := pm_it hf c1
    obtain ⟨n, hn⟩ := pm_lim_iter hf
    exact pt_SJ.trans ((klX16_signed n).1 a0 p1 10 0 0 h hn) K0
  · have hf := pm_ie hf c1
    obtain ⟨n, hn⟩ := pm_lim_iter hf
    exact pt_SJ.trans ((klX16_signed n).1 a0 p1 5 0 0 h hn) K0
set_option maxHeartbeats 4000000 in
set_option maxRecDepth 100000 in
theorem kpX16_small {h : pm_H} {a0 : Nat} {p1 : Int32} {r : ((Nat × pm_H) ⊕ (Int32 × pm_H))} (hf : fX16_small h a0 p1 = some r) : pt_SI r h := by
  unfold fX16_small at hf
  have K0 := pm_S3.rf h
  obtain ⟨k1, hf⟩ := pm_if hf
  obtain ⟨v2, e3, hf⟩ := pm_bd hf
  rcases v2 with z5 | w4
  · have hf := pt_kl hf
    cases hf
    exact pm_S3.trans (show pm_S3 z5.2 _ from kpX16_next e3) K0
  have K6 := pm_S3.trans (show pm_S3 w4.2 _ from kpX16_next e3) K0
  have hf := pt_kr hf
  by_cases c7 : w4.1 ≤ p1
  · have hf := pm_it hf c7
    cases hf
    exact K6
  · have hf := pm_ie hf c7
    obtain ⟨k8, hf⟩ := pm_if hf
    obtain ⟨v9, e10, hf⟩ := pm_bd hf
    rcases v9 with z12 | w11
    · have hf := pt_kl hf
      cases hf
      exact pm_S3.trans (show pm_S3 z12.2 _ from kpX16_stops e10) K6
    have K13 := pm_S3.trans (show pm_S3 w11 _ from kpX16_stops e10) K6
    have hf := pt_kr hf
    cases hf
    exact K13
set_option maxHeartbeats 4000000 in
set_option maxRecDepth 100000 in
theorem kpX16_type {h : pm_H} {a0 : Nat} {r : ((Nat × pm_H) ⊕ (Int32 × pm_H))} (hf : fX16_type h a0 = some r) : pt_SI r h := by
  unfold fX16_type at hf
  have K0 := pm_S3.rf h
  obtain ⟨k1, hf⟩ := pm_if hf
  obtain ⟨v2, e3, hf⟩ := pm_bd hf
  rcases v2 with z5 | w4
  · have hf := pt_kl hf
    cases hf
    exact pm_S3.trans (show pm_S3 z5.2 _ from kpX16_next e3) K0
  have K6 := pm_S3.trans (show pm_S3 w4.2 _ from kpX16_next e3) K0
  have hf := pt_kr hf
  obtain ⟨v7, e8, hf⟩ := pm_lt hf
  by_cases c9 : v7 = 0
  · have hf := pm_it hf c9
    obtain ⟨k10, hf⟩ := pm_if hf
    obtain ⟨v11, e12, hf⟩ := pm_bd hf
    rcases v11 with z14 | w13
    · have hf := pt_kl hf
      cases hf
      exact pm_S3.trans (show pm_S3 z14.2 _ from kpX16_stops e12) K6
    have K15 := pm_S3.trans (show pm_S3 w13 _ from kpX16_stops e12) K6
    have hf := pt_kr hf
    cases hf
    exact K15
  · have hf := pm_ie hf c9
    cases hf
    exact K6
set_option maxHeartbeats 4000000 in
set_option maxRecDepth 100000 in
theorem klX16_typeRow {r : ((Nat × pm_H) ⊕ (Int32 × pm_H))} : ∀ n : Nat, (∀ (x0 : Nat) (x1 : Int32) (x2 : Int64) (x4 : Int64) (h : pm_H), pm_iter sX16_typeRow n (x0, x1, x2, x4, h) = some r → pt_SI r h) := by
  intro n
  induction n with
  | zero => exact fun _ _ _ _ _ hf => (by cases hf)
  | succ n ih =>
    refine fun x0 x1 x2 x4 h hf => ?_
    obtain ⟨y, hf, hi⟩ := pm_iter_s hf
    have hf : tX16_typeRow_25 x0 x1 x2 x4 h = some y := hf
    unfold tX16_typeRow_25 at hf
    have K0 := pm_S3.rf h
    by_cases c16 : x2 ≤ x4
    · have hf := pm_it hf c16
      by_cases c17 : x2 ≤ 16
      · have hf := pm_it hf c17
        cases hf
        cases hi
        exact K0
      · have hf := pm_ie hf c17
        cases hf
        cases hi
        exact K0
    · have hf := pm_ie hf c16
      obtain ⟨k18, hf⟩ := pm_if hf
      obtain ⟨v19, e20, hf⟩ := pm_bd hf
      rcases v19 with z22 | w21
      · have hf := pt_sl hf
        cases hf
        cases hi
        exact pm_S3.trans (show pm_S3 z22.2 _ from kpX16_type e20) K0
      have K23 := pm_S3.trans (show pm_S3 w21.2 _ from kpX16_type e20) K0
      have hf := pt_sr hf
      by_cases c24 : x1 < 0
      · have hf := pm_it hf c24
        obtain ⟨y25, e26, hf⟩ := pm_lt hf
        cases hf
        exact pt_SI.trans (ih x0 x1 x2 y25 w21.2 hi) K23
      · have hf := pm_ie hf c24
        by_cases c27 : 16 ≤ x4
        · have hf := pm_it hf c27
          obtain ⟨y28, e29, hf⟩ := pm_lt hf
          cases hf
          exact pt_SI.trans (ih x0 x1 x2 y28 w21.2 hi) K23
        · have hf := pm_ie hf c27
          obtain ⟨k30, hf⟩ := pm_if hf
          obtain ⟨v31, e32, hf⟩ := pm_bd hf
          obtain ⟨k33, hf⟩ := pm_if hf
          obtain ⟨v34, e35, hf⟩ := pm_bd hf
          obtain ⟨k36, hf⟩ := pm_if hf
          obtain ⟨u37, hf⟩ := pm_if hf
          obtain ⟨y38, e39, hf⟩ := pm_lt hf
          cases hf
          exact pt_SI.trans (ih x0 x1 x2 y38 (pm_setI w21.2 v34 ((x1 + x4.toInt32).toNatClampNeg) w21.1) hi) K23
set_option maxHeartbeats 4000000 in
set_option maxRecDepth 100000 in
theorem kpX16_typeRow {h : pm_H} {a0 : Nat} {p1 : Int32} {r : ((Nat × pm_H) ⊕ (Int32 × pm_H))} (hf : fX16_typeRow h a0 p1 = some r) : pt_SI r h := by
  unfold fX16_typeRow at hf
  have K0 := pm_S3.rf h
  obtain ⟨k1, hf⟩ := pm_if hf
  obtain ⟨v2, e3, hf⟩ := pm_bd hf
  rcases v2 with z5 | w4
  · have hf := pt_kl hf
    cases hf
    exact pm_S3.trans (show pm_S3 z5.2 _ from kpX16_number e3) K0
  have K6 := pm_S3.trans (show pm_S3 w4.2 _ from kpX16_number e3) K0
  have hf := pt_kr hf
  by_cases c7 : w4.1 ≤ 16
  · have hf := pm_it hf c7
    obtain ⟨k8, hf⟩ := pm_if hf
    obtain ⟨v9, e10, hf⟩ := pm_bd hf
    have K11 := pm_S3.trans (kpX16_exceeds e10) K6
    obtain ⟨n, hn⟩ := pm_lim_iter hf
    exact pt_SI.trans ((klX16_typeRow n) a0 p1 w4.1 0 v9 hn) K11
  · have hf := pm_ie hf c7
    obtain ⟨k12, hf⟩ := pm_if hf
    obtain ⟨v13, e14, hf⟩ := pm_bd hf
    have K15 := pm_S3.trans (kpX16_exceeds e14) K6
    obtain ⟨n, hn⟩ := pm_lim_iter hf
    exact pt_SI.trans ((klX16_typeRow n) a0 p1 w4.1 0 v13 hn) K15
set_option maxHeartbeats 4000000 in
set_option maxRecDepth 100000 in
theorem kpX16_accesses {h : pm_H} {a0 : Nat} {p1 : Int32} {r : ((Nat × pm_H) ⊕ pm_H)} (hf : fX16_accesses h a0 p1 = some r) : pt_SV r h := by
  unfold fX16_accesses at hf
  have K0 := pm_S3.rf h
  obtain ⟨v1, e2, hf⟩ := pm_lt hf
  by_cases c3 : p1 ≤ 53
  · have hf := pm_it hf c3
    obtain ⟨k4, hf⟩ := pm_if hf
    obtain ⟨v5, e6, hf⟩ := pm_bd hf
    rcases v5 with z8 | w7
    · have hf := pt_kl hf
      cases hf
      exact pm_S3.trans (show pm_S3 z8.2 _ from kpX16_takes e6) K0
    have K9 := pm_S3.trans (show pm_S3 w7 _ from kpX16_takes e6) K0
    have hf := pt_kr hf
    by_cases c10 : 54 ≤ p1
    · have hf := pm_it hf c10
      cases hf
      exact K9
    · have hf := pm_ie hf c10
      obtain ⟨k11, hf⟩ := pm_if hf
      obtain ⟨v12, e13, hf⟩ := pm_bd hf
      rcases v12 with z15 | w14
      · have hf := pt_kl hf
        cases hf
        exact pm_S3.trans (show pm_S3 z15.2 _ from kpX16_put e13) K9
      have K16 := pm_S3.trans (show pm_S3 w14 _ from kpX16_put e13) K9
      have hf := pt_kr hf
      cases hf
      exact K16
  · have hf := pm_ie hf c3
    obtain ⟨k17, hf⟩ := pm_if hf
    obtain ⟨v18, e19, hf⟩ := pm_bd hf
    rcases v18 with z21 | w20
    · have hf := pt_kl hf
      cases hf
      exact pm_S3.trans (show pm_S3 z21.2 _ from kpX16_takes e19) K0
    have K22 := pm_S3.trans (show pm_S3 w20 _ from kpX16_takes e19) K0
    have hf := pt_kr hf
    obtain ⟨k23, hf⟩ := pm_if hf
    obtain ⟨v24, e25, hf⟩ := pm_bd hf
    rcases v24 with z27 | w26
    · have hf := pt_kl hf
      cases hf
      exact pm_S3.trans (show pm_S3 z27.2 _ from kpX16_takes e25) K22
    have K28 := pm_S3.trans (show pm_S3 w26 _ from kpX16_takes e25) K22
    have hf := pt_kr hf
    by_cases c29 : 54 ≤ p1
    · have hf := pm_it hf c29
      cases hf
      exact K28
    · have hf := pm_ie hf c29
      obtain ⟨k30, hf⟩ := pm_if hf
      obtain ⟨v31, e32, hf⟩ := pm_bd hf
      rcases v31 with z34 | w33
      · have hf := pt_kl hf
        cases hf
        exact pm_S3.trans (show pm_S3 z34.2 _ from kpX16_put e32) K28
      have K35 := pm_S3.trans (show pm_S3 w33 _ from kpX16_put e32) K28
      have hf := pt_kr hf
      cases hf
      exact K35
set_option maxHeartbeats 4000000 in
set_option maxRecDepth 100000 in
theorem kpX16_blockType {h : pm_H} {a0 : Nat} {r : ((Nat × pm_H) ⊕ pm_H)} (hf : fX16_blockType h a0 = some r) : pt_SV r h := by
  unfold fX16_blockType at hf
  have K0 := pm_S3.rf h
  obtain ⟨k1, hf⟩ := pm_if hf
  obtain ⟨y2, e3, hf⟩ := pm_lt hf
  obtain ⟨v4, e5, hf⟩ := pm_bd hf
  rcases v4 with z7 | w6
  · have hf := pt_kl hf
    cases hf
    exact pm_S3.trans (show pm_S3 z7.2 _ from kpX16_next e5) K0
  have K8 := pm_S3.trans (show pm_S3 w6.2 _ from kpX16_next e5) K0
  have hf := pt_kr hf
  by_cases c9 : w6.1 = 64
  · have hf := pm_it hf c9
    cases hf
    exact K8
  · have hf := pm_ie hf c9
    obtain ⟨v10, e11, hf⟩ := pm_lt hf
    by_cases c12 : v10 = 0
    · have hf := pm_it hf c12
      obtain ⟨k13, hf⟩ := pm_if hf
      obtain ⟨v14, e15, hf⟩ := pm_bd hf
      rcases v14 with z17 | w16
      · have hf := pt_kl hf
        cases hf
        exact pm_S3.trans (show pm_S3 z17.2 _ from kpX16_signed e15) K8
      have K18 := pm_S3.trans (show pm_S3 w16.2 _ from kpX16_signed e15) K8
      have hf := pt_kr hf
      by_cases c19 : 0 ≤ w16.1
      · have hf := pm_it hf c19
        cases hf
        exact K18
      · have hf := pm_ie hf c19
        obtain ⟨k20, hf⟩ := pm_if hf
        obtain ⟨v21, e22, hf⟩ := pm_bd hf
        rcases v21 with z24 | w23
        · have hf := pt_kl hf
          cases hf
          exact pm_S3.trans (show pm_S3 z24.2 _ from kpX16_stops e22) K18
        have K25 := pm_S3.trans (show pm_S3 w23 _ from kpX16_stops e22) K18
        have hf := pt_kr hf
        cases hf
        exact K25
    · have hf := pm_ie hf c12
      cases hf
      exact K8
set_option maxHeartbeats 4000000 in
set_option maxRecDepth 100000 in
theorem klX16_checksElement {r : ((Nat × pm_H) ⊕ pm_H)} : ∀ n : Nat, (∀ (x0 : Nat) (x1 : Int32) (x2 : Int32) (h : pm_H), pm_iter sX16_checksElement n (.inl (x0, x1, x2, h)) = some r → pt_SV r h) ∧ (∀ (x0 : Nat) (x1 : Int32) (x2 : Int32) (x3 : Int32) (h : pm_H), pm_iter sX16_checksElement n (.inr (.inl (x0, x1, x2, x3, h))) = some r → pt_SV r h) ∧ (∀ (x0 : Nat) (x1 : Int32) (x3 : Int32) (h : pm_H), pm_iter sX16_checksElement n (.inr (.inr (x0, x1, x3, h))) = some r → pt_SV r h) := by
  intro n
  induction n with
  | zero => exact ⟨fun _ _ _ _ hf => (by cases hf), fun _ _ _ _ _ hf => (by cases hf), fun _ _ _ _ hf => (by cases hf)⟩
  | succ n ih =>
    refine ⟨fun x0 x1 x2 h hf => ?_, ?_⟩
    · obtain ⟨y, hf, hi⟩ := pm_iter_s hf
      have hf : tX16_checksElement_81 x0 x1 x2 h = some y := hf
      unfold tX16_checksElement_81 at hf
      have K0 := pm_S3.rf h
      obtain ⟨k50, hf⟩ := pm_if hf
      obtain ⟨v51, e52, hf⟩ := pm_bd hf
      obtain ⟨k53, hf⟩ := pm_if hf
      obtain ⟨v54, e55, hf⟩ := pm_bd hf
      obtain ⟨k56, hf⟩ := pm_if hf
      obtain ⟨u57, hf⟩ := pm_if hf
      by_cases c58 : (pm_I h v54 x1.toNatClampNeg) = 0
      · have hf := pm_it hf c58
        obtain ⟨v59, e60, hf⟩ := pm_bd hf
        obtain ⟨k61, hf⟩ := pm_if hf
        obtain ⟨u62, hf⟩ := pm_if hf
        obtain ⟨y63, e64, hf⟩ := pm_lt hf
        obtain ⟨v65, e66, hf⟩ := pm_bd hf
        by_cases c67 : v65.toInt64 ≤ y63
        · have hf := pm_it hf c67
          obtain ⟨v68, e69, hf⟩ := pm_bd hf
          rcases v68 with z71 | w70
          · have hf := pt_sl hf
            cases hf
            cases hi
            exact pm_S3.trans (show pm_S3 z71.2 _ from kpX16_stops e69) K0
          have K72 := pm_S3.trans (show pm_S3 w70 _ from kpX16_stops e69) K0
          have hf := pt_sr hf
          obtain ⟨k73, hf⟩ := pm_if hf
          obtain ⟨v74, e75, hf⟩ := pm_bd hf
          obtain ⟨k76, hf⟩ := pm_if hf
          obtain ⟨v77, e78, hf⟩ := pm_bd hf
          obtain ⟨k79, hf⟩ := pm_if hf
          obtain ⟨u80, hf⟩ := pm_if hf
          obtain ⟨v81, e82, hf⟩ := pm_bd hf
          rcases v81 with z84 | w83
          · have hf := pt_sl hf
            cases hf
            cases hi
            exact pm_S3.trans (show pm_S3 z84.2 _ from kpX16_constantly e82) K72
          have K85 := pm_S3.trans (show pm_S3 w83 _ from kpX16_constantly e82) K72
          have hf := pt_sr hf
          obtain ⟨k86, hf⟩ := pm_if hf
          obtain ⟨v87, e88, hf⟩ := pm_bd hf
          obtain ⟨k89, hf⟩ := pm_if hf
          obtain ⟨v90, e91, hf⟩ := pm_bd hf
          obtain ⟨k92, hf⟩ := pm_if hf
          obtain ⟨u93, hf⟩ := pm_if hf
          obtain ⟨y94, e95, hf⟩ := pm_lt hf
          cases hf
          exact pt_SV.trans (ih.2.2 x0 x1 0 (pm_setI w83 x0 19 y94) hi) K85
        · have hf := pm_ie hf c67
          obtain ⟨v96, e97, hf⟩ := pm_bd hf
          obtain ⟨v98, e99, hf⟩ := pm_bd hf
          obtain ⟨k100, hf⟩ := pm_if hf
          obtain ⟨u101, hf⟩ := pm_if hf
          by_cases c102 : v96 = (pm_I h v98 x1.toNatClampNeg)
          · have hf := pm_it hf c102
            obtain ⟨v103, e104, hf⟩ := pm_bd hf
            obtain ⟨k105, hf⟩ := pm_if hf
            obtain ⟨u106, hf⟩ := pm_if hf
            obtain ⟨v107, e108, hf⟩ := pm_bd hf
            rcases v107 with z110 | w109
            · have hf := pt_sl hf
              cases hf
              cases hi
              exact pm_S3.trans (show pm_S3 z110.2 _ from kpX16_constantly e108) K0
            have K111 := pm_S3.trans (show pm_S3 w109 _ from kpX16_constantly e108) K0
            have hf := pt_sr hf
            obtain ⟨k112, hf⟩ := pm_if hf
            obtain ⟨v113, e114, hf⟩ := pm_bd hf
            obtain ⟨k115, hf⟩ := pm_if hf
            obtain ⟨v116, e117, hf⟩ := pm_bd hf
            obtain ⟨k118, hf⟩ := pm_if hf
            obtain ⟨u119, hf⟩ := pm_if hf
            obtain ⟨y120, e121, hf⟩ := pm_lt hf
            cases hf
            exact pt_SV.trans (ih.2.2 x0 x1 0 (pm_setI w109 x0 19 y120) hi) K111
          · have hf := pm_ie hf c102
            obtain ⟨v122, e123, hf⟩ := pm_bd hf
            rcases v122 with z125 | w124
            · have hf := pt_sl hf
              cases hf
              cases hi
              exact pm_S3.trans (show pm_S3 z125.2 _ from kpX16_stops e123) K0
            have K126 := pm_S3.trans (show pm_S3 w124 _ from kpX16_stops e123) K0
            have hf := pt_sr hf
            obtain ⟨k127, hf⟩ := pm_if hf
            obtain ⟨v128, e129, hf⟩ := pm_bd hf
            obtain ⟨k130, hf⟩ := pm_if hf
            obtain ⟨v131, e132, hf⟩ := pm_bd hf
            obtain ⟨k133, hf⟩ := pm_if hf
            obtain ⟨u134, hf⟩ := pm_if hf
            obtain ⟨v135, e136, hf⟩ := pm_bd hf
            rcases v135 with z138 | w137
            · have hf := pt_sl hf
              cases hf
              cases hi
              exact pm_S3.trans (show pm_S3 z138.2 _ from kpX16_constantly e136) K126
            have K139 := pm_S3.trans (show pm_S3 w137 _ from kpX16_constantly e136) K126
            have hf := pt_sr hf
            obtain ⟨k140, hf⟩ := pm_if hf
            obtain ⟨v141, e142, hf⟩ := pm_bd hf
            obtain ⟨k143, hf⟩ := pm_if hf
            obtain ⟨v144, e145, hf⟩ := pm_bd hf
            obtain ⟨k146, hf⟩ := pm_if hf
            obtain ⟨u147, hf⟩ := pm_if hf
            obtain ⟨y148, e149, hf⟩ := pm_lt hf
            cases hf
            exact pt_SV.trans (ih.2.2 x0 x1 0 (pm_setI w137 x0 19 y148) hi) K139
      · have hf := pm_ie hf c58
        obtain ⟨v150, e151, hf⟩ := pm_bd hf
        obtain ⟨k152, hf⟩ := pm_if hf
        obtain ⟨u153, hf⟩ := pm_if hf
        obtain ⟨y154, e155, hf⟩ := pm_lt hf
        cases hf
        exact pt_SV.trans (ih.2.2 x0 x1 0 (pm_setI h x0 19 y154) hi) K0
    refine ⟨fun x0 x1 x2 x3 h hf => ?_, ?_⟩
    · obtain ⟨y, hf, hi⟩ := pm_iter_s hf
      have hf : tX16_checksElement_38 x0 x1 x2 x3 h = some y := hf
      unfold tX16_checksElement_38 at hf
      have K0 := pm_S3.rf h
      obtain ⟨k22, hf⟩ := pm_if hf
      obtain ⟨v23, e24, hf⟩ := pm_bd hf
      obtain ⟨k25, hf⟩ := pm_if hf
      obtain ⟨v26, e27, hf⟩ := pm_bd hf
      obtain ⟨k28, hf⟩ := pm_if hf
      obtain ⟨u29, hf⟩ := pm_if hf
      by_cases c30 : (pm_I h v26 x1.toNatClampNeg) ≤ x3
      · have hf := pm_it hf c30
        cases hf
        exact pt_SV.trans (ih.1 x0 x1 x2 h hi) K0
      · have hf := pm_ie hf c30
        obtain ⟨v31, e32, hf⟩ := pm_bd hf
        have K33 := pm_S3.trans (kpX16_word e32) K0
        obtain ⟨k34, hf⟩ := pm_if hf
        obtain ⟨v35, e36, hf⟩ := pm_bd hf
        obtain ⟨k37, hf⟩ := pm_if hf
        obtain ⟨v38, e39, hf⟩ := pm_bd hf
        by_cases c40 : v31.1 < v38.toInt64
        · have hf := pm_it hf c40
          obtain ⟨y41, e42, hf⟩ := pm_lt hf
          cases hf
          exact pt_SV.trans (ih.2.1 x0 x1 x2 y41 v31.2 hi) K33
        · have hf := pm_ie hf c40
          obtain ⟨v43, e44, hf⟩ := pm_bd hf
          rcases v43 with z46 | w45
          · have hf := pt_sl hf
            cases hf
            cases hi
            exact pm_S3.trans (show pm_S3 z46.2 _ from kpX16_stops e44) K33
          have K47 := pm_S3.trans (show pm_S3 w45 _ from kpX16_stops e44) K33
          have hf := pt_sr hf
          obtain ⟨y48, e49, hf⟩ := pm_lt hf
          cases hf
          exact pt_SV.trans (ih.2.1 x0 x1 x2 y48 w45 hi) K47
    refine fun x0 x1 x3 h hf => ?_
    obtain ⟨y, hf, hi⟩ := pm_iter_s hf
    have hf : tX16_checksElement_175 x0 x1 x3 h = some y := hf
    unfold tX16_checksElement_175 at hf
    have K0 := pm_S3.rf h
    obtain ⟨k156, hf⟩ := pm_if hf
    obtain ⟨v157, e158, hf⟩ := pm_bd hf
    obtain ⟨k159, hf⟩ := pm_if hf
    obtain ⟨v160, e161, hf⟩ := pm_bd hf
    obtain ⟨k162, hf⟩ := pm_if hf
    obtain ⟨u163, hf⟩ := pm_if hf
    by_cases c164 : (pm_I h v160 x1.toNatClampNeg) ≤ x3
    · have hf := pm_it hf c164
      cases hf
      cases hi
      exact K0
    · have hf := pm_ie hf c164
      obtain ⟨v165, e166, hf⟩ := pm_bd hf
      obtain ⟨k167, hf⟩ := pm_if hf
      obtain ⟨u168, hf⟩ := pm_if hf
      by_cases c169 : (pm_I h v165 x1.toNatClampNeg) = 0
      · have hf := pm_it hf c169
        cases hf
        cases hi
        exact K0
      · have hf := pm_ie hf c169
        obtain ⟨v170, e171, hf⟩ := pm_bd hf
        obtain ⟨k172, hf⟩ := pm_if hf
        obtain ⟨u173, hf⟩ := pm_if hf
        obtain ⟨v174, e175, hf⟩ := pm_bd hf
        rcases v174 with z177 | w176
        · have hf := pt_sl hf
          cases hf
          cases hi
          exact pm_S3.trans (show pm_S3 z177.2 _ from kpX16_constantly e175) K0
        have K178 := pm_S3.trans (show pm_S3 w176 _ from kpX16_constantly e175) K0
        have hf := pt_sr hf
        obtain ⟨y179, e180, hf⟩ := pm_lt hf
        cases hf
        exact pt_SV.trans (ih.2.2 x0 x1 y179 w176 hi) K178
set_option maxHeartbeats 4000000 in
set_option maxRecDepth 100000 in
theorem kpX16_checksElement {h : pm_H} {a0 : Nat} {p1 : Int32} {r : ((Nat × pm_H) ⊕ pm_H)} (hf : fX16_checksElement h a0 p1 = some r) : pt_SV r h := by
  unfold fX16_checksElement at hf
  have K0 := pm_S3.rf h
  obtain ⟨k1, hf⟩ := pm_if hf
  obtain ⟨v2, e3, hf⟩ := pm_bd hf
  obtain ⟨k4, hf⟩ := pm_if hf
  obtain ⟨v5, e6, hf⟩ := pm_bd hf
  obtain ⟨k7, hf⟩ := pm_if hf
  obtain ⟨u8, hf⟩ := pm_if hf
  obtain ⟨y9, e10, hf⟩ := pm_lt hf
  obtain ⟨v11, e12, hf⟩ := pm_bd hf
  obtain ⟨k13, hf⟩ := pm_if hf
  obtain ⟨u14, hf⟩ := pm_if hf
  by_cases c15 : (pm_I h v11 p1.toNatClampNeg) = 0
  · have hf := pm_it hf c15
    obtain ⟨v16, e17, hf⟩ := pm_bd hf
    obtain ⟨k18, hf⟩ := pm_if hf
    obtain ⟨u19, hf⟩ := pm_if hf
    obtain ⟨y20, e21, hf⟩ := pm_lt hf
    obtain ⟨n, hn⟩ := pm_lim_iter hf
    exact pt_SV.trans ((klX16_checksElement n).2.1 a0 p1 y9 0 (pm_setI h a0 19 y20) hn) K0
  · have hf := pm_ie hf c15
    obtain ⟨n, hn⟩ := pm_lim_iter hf
    exact pt_SV.trans ((klX16_checksElement n).1 a0 p1 y9 h hn) K0
set_option maxHeartbeats 4000000 in
set_option maxRecDepth 100000 in
theorem klX16_chooses {r : ((Nat × pm_H) ⊕ pm_H)} : ∀ n : Nat, (∀ (x0 : Nat) (x1 : Int32) (x2 : Int32) (x3 : Int32) (x4 : Int32) (h : pm_H), pm_iter sX16_chooses n (.inl (x0, x1, x2, x3, x4, h)) = some r → pt_SV r h) ∧ (∀ (x0 : Nat) (x1 : Int32) (x3 : Int32) (x4 : Int32) (x5 : Int32) (h : pm_H), pm_iter sX16_chooses n (.inr (.inl (x0, x1, x3, x4, x5, h))) = some r → pt_SV r h) ∧ (∀ (x0 : Nat) (x1 : Int32) (x3 : Int32) (x4 : Int32) (x5 : Int32) (x6 : Int32) (x7 : Int32) (h : pm_H), pm_iter sX16_chooses n (.inr (.inr (.inl (x0, x1, x3, x4, x5, x6, x7, h)))) = some r → pt_SV r h) ∧ (∀ (x0 : Nat) (x1 : Int32) (x3 : Int32) (x4 : Int32) (x5 : Int32) (x7 : Int32) (h : pm_H), pm_iter sX16_chooses n (.inr (.inr (.inr (x0, x1, x3, x4, x5, x7, h)))) = some r → pt_SV r h) := by
  intro n
  induction n with
  | zero => exact ⟨fun _ _ _ _ _ _ hf => (by cases hf), fun _ _ _ _ _ _ hf => (by cases hf), fun _ _ _ _ _ _ _ _ hf => (by cases hf), fun _ _ _ _ _ _ _ hf => (by cases hf)⟩
  | succ n ih =>
    refine ⟨fun x0 x1 x2 x3 x4 h hf => ?_, ?_⟩
    · obtain ⟨y, hf, hi⟩ := pm_iter_s hf
      have hf : tX16_chooses_16 x0 x1 x2 x3 x4 h = some y := hf
      unfold tX16_chooses_16 at hf
      have K0 := pm_S3.rf h
      by_cases c8 : x1 < x4
      · have hf := pm_it hf c8
        obtain ⟨k9, hf⟩ := pm_if hf
        obtain ⟨v10, e11, hf⟩ := pm_bd hf
        rcases v10 with z13 | w12
        · have hf := pt_sl hf
          cases hf
          cases hi
          exact pm_S3.trans (show pm_S3 z13.2 _ from kpX16_takes e11) K0
        have K14 := pm_S3.trans (show pm_S3 w12 _ from kpX16_takes e11) K0
        have hf := pt_sr hf
        obtain ⟨k15, hf⟩ := pm_if hf
        obtain ⟨v16, e17, hf⟩ := pm_bd hf
        cases hf
        exact pt_SV.trans (ih.2.1 x0 x1 x3 v16 0 (pm_setI w12 x0 19 x2) hi) K14
      · have hf := pm_ie hf c8
        obtain ⟨k18, hf⟩ := pm_if hf
        obtain ⟨v19, e20, hf⟩ := pm_bd hf
        have K21 := pm_S3.trans (kpX16_word e20) K0
        obtain ⟨y22, e23, hf⟩ := pm_lt hf
        cases hf
        exact pt_SV.trans (ih.1 x0 x1 x2 v19.1.toInt32 y22 v19.2 hi) K21
    refine ⟨fun x0 x1 x3 x4 x5 h hf => ?_, ?_⟩
    · obtain ⟨y, hf, hi⟩ := pm_iter_s hf
      have hf : tX16_chooses_56 x0 x1 x3 x4 x5 h = some y := hf
      unfold tX16_chooses_56 at hf
      have K0 := pm_S3.rf h
      by_cases c24 : x1 ≤ x5
      · have hf := pm_it hf c24
        obtain ⟨k25, hf⟩ := pm_if hf
        obtain ⟨v26, e27, hf⟩ := pm_bd hf
        rcases v26 with z29 | w28
        · have hf := pt_sl hf
          cases hf
          cases hi
          exact pm_S3.trans (show pm_S3 z29.2 _ from kpX16_takeWanted e27) K0
        have K30 := pm_S3.trans (show pm_S3 w28 _ from kpX16_takeWanted e27) K0
        have hf := pt_sr hf
        obtain ⟨k31, hf⟩ := pm_if hf
        obtain ⟨v32, e33, hf⟩ := pm_bd hf
        have K34 := pm_S3.trans (kpX16_dies e33) K30
        cases hf
        cases hi
        exact K34
      · have hf := pm_ie hf c24
        obtain ⟨k35, hf⟩ := pm_if hf
        obtain ⟨v36, e37, hf⟩ := pm_bd hf
        have K38 := pm_S3.trans (kpX16_word e37) K0
        obtain ⟨k39, hf⟩ := pm_if hf
        obtain ⟨v40, e41, hf⟩ := pm_bd hf
        by_cases c42 : v40 = x4
        · have hf := pm_it hf c42
          obtain ⟨y43, e44, hf⟩ := pm_lt hf
          cases hf
          exact pt_SV.trans (ih.2.2.1 x0 x1 x3 x4 x5 v36.1.toInt32 y43 v36.2 hi) K38
        · have hf := pm_ie hf c42
          obtain ⟨v45, e46, hf⟩ := pm_bd hf
          rcases v45 with z48 | w47
          · have hf := pt_sl hf
            cases hf
            cases hi
            exact pm_S3.trans (show pm_S3 z48.2 _ from kpX16_stops e46) K38
          have K49 := pm_S3.trans (show pm_S3 w47 _ from kpX16_stops e46) K38
          have hf := pt_sr hf
          obtain ⟨y50, e51, hf⟩ := pm_lt hf
          cases hf
          exact pt_SV.trans (ih.2.2.1 x0 x1 x3 x4 x5 v36.1.toInt32 y50 w47 hi) K49
    refine ⟨fun x0 x1 x3 x4 x5 x6 x7 h hf => ?_, ?_⟩
    · obtain ⟨y, hf, hi⟩ := pm_iter_s hf
      have hf : tX16_chooses_96 x0 x1 x3 x4 x5 x6 x7 h = some y := hf
      unfold tX16_chooses_96 at hf
      have K0 := pm_S3.rf h
      by_cases c52 : x7 < 0
      · have hf := pm_it hf c52
        cases hf
        exact pt_SV.trans (ih.2.2.2 x0 x1 x3 x4 x5 0 h hi) K0
      · have hf := pm_ie hf c52
        obtain ⟨k53, hf⟩ := pm_if hf
        obtain ⟨v54, e55, hf⟩ := pm_bd hf
        obtain ⟨v56, e57, hf⟩ := pm_bd hf
        obtain ⟨v58, e59, hf⟩ := pm_bd hf
        rcases v58 with z61 | w60
        · have hf := pt_sl hf
          cases hf
          cases hi
          exact pm_S3.trans (show pm_S3 z61.2 _ from kpX16_take e59) K0
        have K62 := pm_S3.trans (show pm_S3 w60.2 _ from kpX16_take e59) K0
        have hf := pt_sr hf
        obtain ⟨k63, hf⟩ := pm_if hf
        obtain ⟨u64, hf⟩ := pm_if hf
        obtain ⟨y65, e66, hf⟩ := pm_lt hf
        cases hf
        exact pt_SV.trans (ih.2.2.1 x0 x1 x3 x4 x5 x6 y65 (pm_setI w60.2 v54 x7.toNatClampNeg w60.1) hi) K62
    refine fun x0 x1 x3 x4 x5 x7 h hf => ?_
    obtain ⟨y, hf, hi⟩ := pm_iter_s hf
    have hf : tX16_chooses_129 x0 x1 x3 x4 x5 x7 h = some y := hf
    unfold tX16_chooses_129 at hf
    have K0 := pm_S3.rf h
    by_cases c67 : x4 ≤ x7
    · have hf := pm_it hf c67
      obtain ⟨y68, e69, hf⟩ := pm_lt hf
      cases hf
      exact pt_SV.trans (ih.2.1 x0 x1 x3 x4 y68 h hi) K0
    · have hf := pm_ie hf c67
      obtain ⟨k70, hf⟩ := pm_if hf
      obtain ⟨v71, e72, hf⟩ := pm_bd hf
      obtain ⟨k73, hf⟩ := pm_if hf
      obtain ⟨u74, hf⟩ := pm_if hf
      obtain ⟨v75, e76, hf⟩ := pm_bd hf
      rcases v75 with z78 | w77
      · have hf := pt_sl hf
        cases hf
        cases hi
        exact pm_S3.trans (show pm_S3 z78.2 _ from kpX16_put e76) K0
      have K79 := pm_S3.trans (show pm_S3 w77 _ from kpX16_put e76) K0
      have hf := pt_sr hf
      obtain ⟨y80, e81, hf⟩ := pm_lt hf
      cases hf
      exact pt_SV.trans (ih.2.2.2 x0 x1 x3 x4 x5 y80 w77 hi) K79
set_option maxHeartbeats 4000000 in
set_option maxRecDepth 100000 in
theorem kpX16_chooses {h : pm_H} {a0 : Nat} {r : ((Nat × pm_H) ⊕ pm_H)} (hf : fX16_chooses h a0 = some r) : pt_SV r h := by
  unfold fX16_chooses at hf
  have K0 := pm_S3.rf h
  obtain ⟨k1, hf⟩ := pm_if hf
  obtain ⟨v2, e3, hf⟩ := pm_bd hf
  have K4 := pm_S3.trans (kpX16_word e3) K0
  obtain ⟨k5, hf⟩ := pm_if hf
  obtain ⟨y6, e7, hf⟩ := pm_lt hf
  obtain ⟨n, hn⟩ := pm_lim_iter hf
  exact pt_SV.trans ((klX16_chooses n).1 a0 v2.1.toInt32 y6 0 0 v2.2 hn) K4
