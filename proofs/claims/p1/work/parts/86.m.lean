set_option maxHeartbeats 4000000 in
set_option maxRecDepth 100000 in
theorem klX16_readsTypes {r : ((Nat × pm_H) ⊕ pm_H)} : ∀ n : Nat, (∀ (x0 : Nat) (x1 : Int64) (x3 : Int64) (h : pm_H), pm_iter sX16_readsTypes n (.inl (x0, x1, x3, h)) = some r → pt_SV r h) ∧ (∀ (x0 : Nat) (x1 : Int64) (x3 : Int64) (h : pm_H), pm_iter sX16_readsTypes n (.inr (.inl (x0, x1, x3, h))) = some r → pt_SV r h) ∧ (∀ (x0 : Nat) (x1 : Int64) (x3 : Int64) (s0 : Int32) (h : pm_H), pm_iter sX16_readsTypes n (.inr (.inr (.inl (x0, x1, x3, s0, h)))) = some r → pt_SV r h) ∧ (∀ (x0 : Nat) (x1 : Int64) (x3 : Int64) (x6 : Int32) (s0 : Int32) (s1 : Nat) (h : pm_H), pm_iter sX16_readsTypes n (.inr (.inr (.inr (x0, x1, x3, x6, s0, s1, h)))) = some r → pt_SV r h) := by
  intro n
  induction n with
  | zero => exact ⟨fun _ _ _ _ hf => (by cases hf), fun _ _ _ _ hf => (by cases hf), fun _ _ _ _ _ hf => (by cases hf), fun _ _ _ _ _ _ _ hf => (by cases hf)⟩
  | succ n ih =>
    refine ⟨fun x0 x1 x3 h hf => ?_, ?_⟩
    · obtain ⟨y, hf, hi⟩ := pm_iter_s hf
      have hf : tX16_readsTypes_19 x0 x1 x3 h = some y := hf
      unfold tX16_readsTypes_19 at hf
      have K0 := pm_S3.rf h
      by_cases c14 : x1 ≤ x3
      · have hf := pm_it hf c14
        cases hf
        cases hi
        exact K0
      · have hf := pm_ie hf c14
        obtain ⟨k15, hf⟩ := pm_if hf
        obtain ⟨v16, e17, hf⟩ := pm_bd hf
        rcases v16 with z19 | w18
        · have hf := pt_sl hf
          cases hf
          cases hi
          exact pm_S3.trans (show pm_S3 z19.2 _ from kpX16_next e17) K0
        have K20 := pm_S3.trans (show pm_S3 w18.2 _ from kpX16_next e17) K0
        have hf := pt_sr hf
        by_cases c21 : w18.1 = 96
        · have hf := pm_it hf c21
          cases hf
          exact pt_SV.trans (ih.2.1 x0 x1 x3 w18.2 hi) K20
        · have hf := pm_ie hf c21
          obtain ⟨k22, hf⟩ := pm_if hf
          obtain ⟨v23, e24, hf⟩ := pm_bd hf
          rcases v23 with z26 | w25
          · have hf := pt_sl hf
            cases hf
            cases hi
            exact pm_S3.trans (show pm_S3 z26.2 _ from kpX16_stops e24) K20
          have K27 := pm_S3.trans (show pm_S3 w25 _ from kpX16_stops e24) K20
          have hf := pt_sr hf
          cases hf
          exact pt_SV.trans (ih.2.1 x0 x1 x3 w25 hi) K27
    refine ⟨fun x0 x1 x3 h hf => ?_, ?_⟩
    · obtain ⟨y, hf, hi⟩ := pm_iter_s hf
      have hf : tX16_readsTypes_50 x0 x1 x3 h = some y := hf
      unfold tX16_readsTypes_50 at hf
      have K0 := pm_S3.rf h
      by_cases c28 : 64 ≤ x3
      · have hf := pm_it hf c28
        cases hf
        exact pt_SV.trans (ih.2.2.1 x0 x1 x3 (-1) h hi) K0
      · have hf := pm_ie hf c28
        cases hf
        exact pt_SV.trans (ih.2.2.1 x0 x1 x3 x3.toInt32 h hi) K0
    refine ⟨fun x0 x1 x3 s0 h hf => ?_, ?_⟩
    · obtain ⟨y, hf, hi⟩ := pm_iter_s hf
      have hf : tX16_readsTypes_64 x0 x1 x3 s0 h = some y := hf
      unfold tX16_readsTypes_64 at hf
      have K0 := pm_S3.rf h
      by_cases c29 : 0 ≤ s0
      · have hf := pm_it hf c29
        cases hf
        exact pt_SV.trans (ih.2.2.2 x0 x1 x3 s0 (32 * s0) x0 h hi) K0
      · have hf := pm_ie hf c29
        cases hf
        exact pt_SV.trans (ih.2.2.2 x0 x1 x3 s0 (-1) x0 h hi) K0
    refine fun x0 x1 x3 x6 s0 s1 h hf => ?_
    obtain ⟨y, hf, hi⟩ := pm_iter_s hf
    have hf : tX16_readsTypes_81 x0 x1 x3 x6 s0 s1 h = some y := hf
    unfold tX16_readsTypes_81 at hf
    have K0 := pm_S3.rf h
    obtain ⟨k30, hf⟩ := pm_if hf
    obtain ⟨v31, e32, hf⟩ := pm_bd hf
    rcases v31 with z34 | w33
    · have hf := pt_sl hf
      cases hf
      cases hi
      exact pm_S3.trans (show pm_S3 z34.2 _ from kpX16_typeRow e32) K0
    have K35 := pm_S3.trans (show pm_S3 w33.2 _ from kpX16_typeRow e32) K0
    have hf := pt_sr hf
    by_cases c36 : 0 ≤ x6
    · have hf := pm_it hf c36
      obtain ⟨k37, hf⟩ := pm_if hf
      obtain ⟨v38, e39, hf⟩ := pm_bd hf
      rcases v38 with z41 | w40
      · have hf := pt_sl hf
        cases hf
        cases hi
        exact pm_S3.trans (show pm_S3 z41.2 _ from kpX16_typeRow e39) K35
      have K42 := pm_S3.trans (show pm_S3 w40.2 _ from kpX16_typeRow e39) K35
      have hf := pt_sr hf
      by_cases c43 : x6 < 0
      · have hf := pm_it hf c43
        obtain ⟨y44, e45, hf⟩ := pm_lt hf
        cases hf
        exact pt_SV.trans (ih.1 x0 x1 y44 w40.2 hi) K42
      · have hf := pm_ie hf c43
        obtain ⟨k46, hf⟩ := pm_if hf
        obtain ⟨v47, e48, hf⟩ := pm_bd hf
        obtain ⟨k49, hf⟩ := pm_if hf
        obtain ⟨v50, e51, hf⟩ := pm_bd hf
        obtain ⟨k52, hf⟩ := pm_if hf
        obtain ⟨u53, hf⟩ := pm_if hf
        obtain ⟨v54, e55, hf⟩ := pm_bd hf
        obtain ⟨k56, hf⟩ := pm_if hf
        obtain ⟨u57, hf⟩ := pm_if hf
        obtain ⟨y58, e59, hf⟩ := pm_lt hf
        cases hf
        exact pt_SV.trans (ih.1 x0 x1 y58 (pm_setI (pm_setI w40.2 v50 x6.toNatClampNeg w33.1) v54 x6.toNatClampNeg w40.1) hi) K42
    · have hf := pm_ie hf c36
      obtain ⟨k60, hf⟩ := pm_if hf
      obtain ⟨v61, e62, hf⟩ := pm_bd hf
      rcases v61 with z64 | w63
      · have hf := pt_sl hf
        cases hf
        cases hi
        exact pm_S3.trans (show pm_S3 z64.2 _ from kpX16_typeRow e62) K35
      have K65 := pm_S3.trans (show pm_S3 w63.2 _ from kpX16_typeRow e62) K35
      have hf := pt_sr hf
      by_cases c66 : x6 < 0
      · have hf := pm_it hf c66
        obtain ⟨y67, e68, hf⟩ := pm_lt hf
        cases hf
        exact pt_SV.trans (ih.1 x0 x1 y67 w63.2 hi) K65
      · have hf := pm_ie hf c66
        obtain ⟨k69, hf⟩ := pm_if hf
        obtain ⟨v70, e71, hf⟩ := pm_bd hf
        obtain ⟨k72, hf⟩ := pm_if hf
        obtain ⟨v73, e74, hf⟩ := pm_bd hf
        obtain ⟨k75, hf⟩ := pm_if hf
        obtain ⟨u76, hf⟩ := pm_if hf
        obtain ⟨v77, e78, hf⟩ := pm_bd hf
        obtain ⟨k79, hf⟩ := pm_if hf
        obtain ⟨u80, hf⟩ := pm_if hf
        obtain ⟨y81, e82, hf⟩ := pm_lt hf
        cases hf
        exact pt_SV.trans (ih.1 x0 x1 y81 (pm_setI (pm_setI w63.2 v73 x6.toNatClampNeg w33.1) v77 x6.toNatClampNeg w63.1) hi) K65
set_option maxHeartbeats 4000000 in
set_option maxRecDepth 100000 in
theorem kpX16_readsTypes {h : pm_H} {a0 : Nat} {r : ((Nat × pm_H) ⊕ pm_H)} (hf : fX16_readsTypes h a0 = some r) : pt_SV r h := by
  unfold fX16_readsTypes at hf
  have K0 := pm_S3.rf h
  obtain ⟨k1, hf⟩ := pm_if hf
  obtain ⟨v2, e3, hf⟩ := pm_bd hf
  rcases v2 with z5 | w4
  · have hf := pt_kl hf
    cases hf
    exact pm_S3.trans (show pm_S3 z5.2 _ from kpX16_number e3) K0
  have K6 := pm_S3.trans (show pm_S3 w4.2 _ from kpX16_number e3) K0
  have hf := pt_kr hf
  obtain ⟨k7, hf⟩ := pm_if hf
  obtain ⟨v8, e9, hf⟩ := pm_bd hf
  obtain ⟨v10, e11, hf⟩ := pm_bd hf
  have K12 := pm_S3.trans (kpX16_kept e11) K6
  obtain ⟨k13, hf⟩ := pm_if hf
  obtain ⟨n, hn⟩ := pm_lim_iter hf
  exact pt_SV.trans ((klX16_readsTypes n).1 a0 w4.1 0 (pm_setI v10.2 v8 4 v10.1) hn) K12
set_option maxHeartbeats 4000000 in
set_option maxRecDepth 100000 in
theorem klX16_controls {r : ((Nat × pm_H) ⊕ pm_H)} : ∀ n : Nat, (∀ (x0 : Nat) (x4 : Int32) (x5 : Int32) (h : pm_H), pm_iter sX16_controls n (x0, x4, x5, h) = some r → pt_SV r h) := by
  intro n
  induction n with
  | zero => exact fun _ _ _ _ hf => (by cases hf)
  | succ n ih =>
    refine fun x0 x4 x5 h hf => ?_
    obtain ⟨y, hf, hi⟩ := pm_iter_s hf
    have hf : tX16_controls_222 x0 x4 x5 h = some y := hf
    unfold tX16_controls_222 at hf
    have K0 := pm_S3.rf h
    obtain ⟨k315, hf⟩ := pm_if hf
    obtain ⟨v316, e317, hf⟩ := pm_bd hf
    by_cases c318 : v316 ≤ x5
    · have hf := pm_it hf c318
      cases hf
      cases hi
      exact K0
    · have hf := pm_ie hf c318
      obtain ⟨v319, e320, hf⟩ := pm_bd hf
      obtain ⟨v321, e322, hf⟩ := pm_bd hf
      rcases v321 with z324 | w323
      · have hf := pt_sl hf
        cases hf
        cases hi
        exact pm_S3.trans (show pm_S3 z324.2 _ from kpX16_put e322) K0
      have K325 := pm_S3.trans (show pm_S3 w323 _ from kpX16_put e322) K0
      have hf := pt_sr hf
      obtain ⟨y326, e327, hf⟩ := pm_lt hf
      cases hf
      exact pt_SV.trans (ih x0 x4 y326 w323 hi) K325
set_option maxHeartbeats 4000000 in
set_option maxRecDepth 100000 in
theorem kpX16_controls {h : pm_H} {a0 : Nat} {p1 : Int32} {r : ((Nat × pm_H) ⊕ pm_H)} (hf : fX16_controls h a0 p1 = some r) : pt_SV r h := by
  unfold fX16_controls at hf
  have K0 := pm_S3.rf h
  by_cases c1 : p1 = 0
  · have hf := pm_it hf c1
    obtain ⟨k2, hf⟩ := pm_if hf
    obtain ⟨v3, e4, hf⟩ := pm_bd hf
    have K5 := pm_S3.trans (kpX16_dies e4) K0
    cases hf
    exact K5
  have hf := pm_ie hf c1
  by_cases c6 : p1 = 1
  · have hf := pm_it hf c6
    cases hf
    exact K0
  have hf := pm_ie hf c6
  by_cases c7 : p1 = 2
  · have hf := pm_it hf c7
    obtain ⟨k8, hf⟩ := pm_if hf
    obtain ⟨v9, e10, hf⟩ := pm_bd hf
    have K11 := pm_S3.trans (kpX16_blockWord e10) K0
    by_cases c12 : p1 = 4
    · have hf := pm_it hf c12
      obtain ⟨k13, hf⟩ := pm_if hf
      obtain ⟨v14, e15, hf⟩ := pm_bd hf
      rcases v14 with z17 | w16
      · have hf := pt_kl hf
        cases hf
        exact pm_S3.trans (show pm_S3 z17.2 _ from kpX16_takes e15) K11
      have K18 := pm_S3.trans (show pm_S3 w16 _ from kpX16_takes e15) K11
      have hf := pt_kr hf
      obtain ⟨k19, hf⟩ := pm_if hf
      obtain ⟨v20, e21, hf⟩ := pm_bd hf
      rcases v20 with z23 | w22
      · have hf := pt_kl hf
        cases hf
        exact pm_S3.trans (show pm_S3 z23.2 _ from kpX16_takeParameters e21) K18
      have K24 := pm_S3.trans (show pm_S3 w22 _ from kpX16_takeParameters e21) K18
      have hf := pt_kr hf
      obtain ⟨k25, hf⟩ := pm_if hf
      obtain ⟨v26, e27, hf⟩ := pm_bd hf
      rcases v26 with z29 | w28
      · have hf := pt_kl hf
        cases hf
        exact pm_S3.trans (show pm_S3 z29.2 _ from kpX16_begins e27) K24
      have K30 := pm_S3.trans (show pm_S3 w28 _ from kpX16_begins e27) K24
      have hf := pt_kr hf
      obtain ⟨k31, hf⟩ := pm_if hf
      obtain ⟨v32, e33, hf⟩ := pm_bd hf
      rcases v32 with z35 | w34
      · have hf := pt_kl hf
        cases hf
        exact pm_S3.trans (show pm_S3 z35.2 _ from kpX16_putParameters e33) K30
      have K36 := pm_S3.trans (show pm_S3 w34 _ from kpX16_putParameters e33) K30
      have hf := pt_kr hf
      cases hf
      exact K36
    · have hf := pm_ie hf c12
      obtain ⟨k37, hf⟩ := pm_if hf
      obtain ⟨v38, e39, hf⟩ := pm_bd hf
      rcases v38 with z41 | w40
      · have hf := pt_kl hf
        cases hf
        exact pm_S3.trans (show pm_S3 z41.2 _ from kpX16_takeParameters e39) K11
      have K42 := pm_S3.trans (show pm_S3 w40 _ from kpX16_takeParameters e39) K11
      have hf := pt_kr hf
      obtain ⟨k43, hf⟩ := pm_if hf
      obtain ⟨v44, e45, hf⟩ := pm_bd hf
      rcases v44 with z47 | w46
      · have hf := pt_kl hf
        cases hf
        exact pm_S3.trans (show pm_S3 z47.2 _ from kpX16_begins e45) K42
      have K48 := pm_S3.trans (show pm_S3 w46 _ from kpX16_begins e45) K42
      have hf := pt_kr hf
      obtain ⟨k49, hf⟩ := pm_if hf
      obtain ⟨v50, e51, hf⟩ := pm_bd hf
      rcases v50 with z53 | w52
      · have hf := pt_kl hf
        cases hf
        exact pm_S3.trans (show pm_S3 z53.2 _ from kpX16_putParameters e51) K48
      have K54 := pm_S3.trans (show pm_S3 w52 _ from kpX16_putParameters e51) K48
      have hf := pt_kr hf
      cases hf
      exact K54
  have hf := pm_ie hf c7
  by_cases c55 : p1 = 3
  · have hf := pm_it hf c55
    obtain ⟨k56, hf⟩ := pm_if hf
    obtain ⟨v57, e58, hf⟩ := pm_bd hf
    have K59 := pm_S3.trans (kpX16_blockWord e58) K0
    by_cases c60 : p1 = 4
    · have hf := pm_it hf c60
      obtain ⟨k61, hf⟩ := pm_if hf
      obtain ⟨v62, e63, hf⟩ := pm_bd hf
      rcases v62 with z65 | w64
      · have hf := pt_kl hf
        cases hf
        exact pm_S3.trans (show pm_S3 z65.2 _ from kpX16_takes e63) K59
      have K66 := pm_S3.trans (show pm_S3 w64 _ from kpX16_takes e63) K59
      have hf := pt_kr hf
      obtain ⟨k67, hf⟩ := pm_if hf
      obtain ⟨v68, e69, hf⟩ := pm_bd hf
      rcases v68 with z71 | w70
      · have hf := pt_kl hf
        cases hf
        exact pm_S3.trans (show pm_S3 z71.2 _ from kpX16_takeParameters e69) K66
      have K72 := pm_S3.trans (show pm_S3 w70 _ from kpX16_takeParameters e69) K66
      have hf := pt_kr hf
      obtain ⟨k73, hf⟩ := pm_if hf
      obtain ⟨v74, e75, hf⟩ := pm_bd hf
      rcases v74 with z77 | w76
      · have hf := pt_kl hf
        cases hf
        exact pm_S3.trans (show pm_S3 z77.2 _ from kpX16_begins e75) K72
      have K78 := pm_S3.trans (show pm_S3 w76 _ from kpX16_begins e75) K72
      have hf := pt_kr hf
      obtain ⟨k79, hf⟩ := pm_if hf
      obtain ⟨v80, e81, hf⟩ := pm_bd hf
      rcases v80 with z83 | w82
      · have hf := pt_kl hf
        cases hf
        exact pm_S3.trans (show pm_S3 z83.2 _ from kpX16_putParameters e81) K78
      have K84 := pm_S3.trans (show pm_S3 w82 _ from kpX16_putParameters e81) K78
      have hf := pt_kr hf
      cases hf
      exact K84
    · have hf := pm_ie hf c60
      obtain ⟨k85, hf⟩ := pm_if hf
      obtain ⟨v86, e87, hf⟩ := pm_bd hf
      rcases v86 with z89 | w88
      · have hf := pt_kl hf
        cases hf
        exact pm_S3.trans (show pm_S3 z89.2 _ from kpX16_takeParameters e87) K59
      have K90 := pm_S3.trans (show pm_S3 w88 _ from kpX16_takeParameters e87) K59
      have hf := pt_kr hf
      obtain ⟨k91, hf⟩ := pm_if hf
      obtain ⟨v92, e93, hf⟩ := pm_bd hf
      rcases v92 with z95 | w94
      · have hf := pt_kl hf
        cases hf
        exact pm_S3.trans (show pm_S3 z95.2 _ from kpX16_begins e93) K90
      have K96 := pm_S3.trans (show pm_S3 w94 _ from kpX16_begins e93) K90
      have hf := pt_kr hf
      obtain ⟨k97, hf⟩ := pm_if hf
      obtain ⟨v98, e99, hf⟩ := pm_bd hf
      rcases v98 with z101 | w100
      · have hf := pt_kl hf
        cases hf
        exact pm_S3.trans (show pm_S3 z101.2 _ from kpX16_putParameters e99) K96
      have K102 := pm_S3.trans (show pm_S3 w100 _ from kpX16_putParameters e99) K96
      have hf := pt_kr hf
      cases hf
      exact K102
  have hf := pm_ie hf c55
  by_cases c103 : p1 = 4
  · have hf := pm_it hf c103
    obtain ⟨k104, hf⟩ := pm_if hf
    obtain ⟨v105, e106, hf⟩ := pm_bd hf
    have K107 := pm_S3.trans (kpX16_blockWord e106) K0
    by_cases c108 : p1 = 4
    · have hf := pm_it hf c108
      obtain ⟨k109, hf⟩ := pm_if hf
      obtain ⟨v110, e111, hf⟩ := pm_bd hf
      rcases v110 with z113 | w112
      · have hf := pt_kl hf
        cases hf
        exact pm_S3.trans (show pm_S3 z113.2 _ from kpX16_takes e111) K107
      have K114 := pm_S3.trans (show pm_S3 w112 _ from kpX16_takes e111) K107
      have hf := pt_kr hf
      obtain ⟨k115, hf⟩ := pm_if hf
      obtain ⟨v116, e117, hf⟩ := pm_bd hf
      rcases v116 with z119 | w118
      · have hf := pt_kl hf
        cases hf
        exact pm_S3.trans (show pm_S3 z119.2 _ from kpX16_takeParameters e117) K114
      have K120 := pm_S3.trans (show pm_S3 w118 _ from kpX16_takeParameters e117) K114
      have hf := pt_kr hf
      obtain ⟨k121, hf⟩ := pm_if hf
      obtain ⟨v122, e123, hf⟩ := pm_bd hf
      rcases v122 with z125 | w124
      · have hf := pt_kl hf
        cases hf
        exact pm_S3.trans (show pm_S3 z125.2 _ from kpX16_begins e123) K120
      have K126 := pm_S3.trans (show pm_S3 w124 _ from kpX16_begins e123) K120
      have hf := pt_kr hf
      obtain ⟨k127, hf⟩ := pm_if hf
      obtain ⟨v128, e129, hf⟩ := pm_bd hf
      rcases v128 with z131 | w130
      · have hf := pt_kl hf
        cases hf
        exact pm_S3.trans (show pm_S3 z131.2 _ from kpX16_putParameters e129) K126
      have K132 := pm_S3.trans (show pm_S3 w130 _ from kpX16_putParameters e129) K126
      have hf := pt_kr hf
      cases hf
      exact K132
    · have hf := pm_ie hf c108
      obtain ⟨k133, hf⟩ := pm_if hf
      obtain ⟨v134, e135, hf⟩ := pm_bd hf
      rcases v134 with z137 | w136
      · have hf := pt_kl hf
        cases hf
        exact pm_S3.trans (show pm_S3 z137.2 _ from kpX16_takeParameters e135) K107
      have K138 := pm_S3.trans (show pm_S3 w136 _ from kpX16_takeParameters e135) K107
      have hf := pt_kr hf
      obtain ⟨k139, hf⟩ := pm_if hf
      obtain ⟨v140, e141, hf⟩ := pm_bd hf
      rcases v140 with z143 | w142
      · have hf := pt_kl hf
        cases hf
        exact pm_S3.trans (show pm_S3 z143.2 _ from kpX16_begins e141) K138
      have K144 := pm_S3.trans (show pm_S3 w142 _ from kpX16_begins e141) K138
      have hf := pt_kr hf
      obtain ⟨k145, hf⟩ := pm_if hf
      obtain ⟨v146, e147, hf⟩ := pm_bd hf
      rcases v146 with z149 | w148
      · have hf := pt_kl hf
        cases hf
        exact pm_S3.trans (show pm_S3 z149.2 _ from kpX16_putParameters e147) K144
      have K150 := pm_S3.trans (show pm_S3 w148 _ from kpX16_putParameters e147) K144
      have hf := pt_kr hf
      cases hf
      exact K150
  have hf := pm_ie hf c103
  by_cases c151 : p1 = 5
  · have hf := pm_it hf c151
    obtain ⟨k152, hf⟩ := pm_if hf
    obtain ⟨v153, e154, hf⟩ := pm_bd hf
    rcases v153 with z156 | w155
    · have hf := pt_kl hf
      cases hf
      exact pm_S3.trans (show pm_S3 z156.2 _ from kpX16_ends e154) K0
    have K157 := pm_S3.trans (show pm_S3 w155 _ from kpX16_ends e154) K0
    have hf := pt_kr hf
    cases hf
    exact K157
  have hf := pm_ie hf c151
  by_cases c158 : p1 = 6
  · have hf := pm_it hf c158
    cases hf
    exact K0
  have hf := pm_ie hf c158
  by_cases c159 : p1 = 7
  · have hf := pm_it hf c159
    cases hf
    exact K0
  have hf := pm_ie hf c159
  by_cases c160 : p1 = 8
  · have hf := pm_it hf c160
    cases hf
    exact K0
  have hf := pm_ie hf c160
  by_cases c161 : p1 = 9
  · have hf := pm_it hf c161
    cases hf
    exact K0
  have hf := pm_ie hf c161
  by_cases c162 : p1 = 10
  · have hf := pm_it hf c162
    cases hf
    exact K0
  have hf := pm_ie hf c162
  by_cases c163 : p1 = 11
  · have hf := pm_it hf c163
    obtain ⟨k164, hf⟩ := pm_if hf
    obtain ⟨v165, e166, hf⟩ := pm_bd hf
    rcases v165 with z168 | w167
    · have hf := pt_kl hf
      cases hf
      exact pm_S3.trans (show pm_S3 z168.2 _ from kpX16_ends e166) K0
    have K169 := pm_S3.trans (show pm_S3 w167 _ from kpX16_ends e166) K0
    have hf := pt_kr hf
    cases hf
    exact K169
  have hf := pm_ie hf c163
  by_cases c170 : p1 = 12
  · have hf := pm_it hf c170
    obtain ⟨k171, hf⟩ := pm_if hf
    obtain ⟨v172, e173, hf⟩ := pm_bd hf
    have K174 := pm_S3.trans (kpX16_word e173) K0
    obtain ⟨k175, hf⟩ := pm_if hf
    obtain ⟨v176, e177, hf⟩ := pm_bd hf
    rcases v176 with z179 | w178
    · have hf := pt_kl hf
      cases hf
      exact pm_S3.trans (show pm_S3 z179.2 _ from kpX16_takeWanted e177) K174
    have K180 := pm_S3.trans (show pm_S3 w178 _ from kpX16_takeWanted e177) K174
    have hf := pt_kr hf
    obtain ⟨k181, hf⟩ := pm_if hf
    obtain ⟨v182, e183, hf⟩ := pm_bd hf
    have K184 := pm_S3.trans (kpX16_dies e183) K180
    cases hf
    exact K184
  have hf := pm_ie hf c170
  by_cases c185 : p1 = 13
  · have hf := pm_it hf c185
    obtain ⟨k186, hf⟩ := pm_if hf
    obtain ⟨v187, e188, hf⟩ := pm_bd hf
    have K189 := pm_S3.trans (kpX16_word e188) K0
    obtain ⟨k190, hf⟩ := pm_if hf
    obtain ⟨v191, e192, hf⟩ := pm_bd hf
    rcases v191 with z194 | w193
    · have hf := pt_kl hf
      cases hf
      exact pm_S3.trans (show pm_S3 z194.2 _ from kpX16_takes e192) K189
    have K195 := pm_S3.trans (show pm_S3 w193 _ from kpX16_takes e192) K189
    have hf := pt_kr hf
    obtain ⟨k196, hf⟩ := pm_if hf
    obtain ⟨v197, e198, hf⟩ := pm_bd hf
    rcases v197 with z200 | w199
    · have hf := pt_kl hf
      cases hf
      exact pm_S3.trans (show pm_S3 z200.2 _ from kpX16_takeWanted e198) K195
    have K201 := pm_S3.trans (show pm_S3 w199 _ from kpX16_takeWanted e198) K195
    have hf := pt_kr hf
    obtain ⟨n, hn⟩ := pm_lim_iter hf
    exact pt_SV.trans ((klX16_controls n) a0 v187.1.toInt32 0 w199 hn) K201
  have hf := pm_ie hf c185
  by_cases c202 : p1 = 14
  · have hf := pm_it hf c202
    obtain ⟨k203, hf⟩ := pm_if hf
    obtain ⟨v204, e205, hf⟩ := pm_bd hf
    rcases v204 with z207 | w206
    · have hf := pt_kl hf
      cases hf
      exact pm_S3.trans (show pm_S3 z207.2 _ from kpX16_chooses e205) K0
    have K208 := pm_S3.trans (show pm_S3 w206 _ from kpX16_chooses e205) K0
    have hf := pt_kr hf
    cases hf
    exact K208
  have hf := pm_ie hf c202
  by_cases c209 : p1 = 15
  · have hf := pm_it hf c209
    obtain ⟨k210, hf⟩ := pm_if hf
    obtain ⟨v211, e212, hf⟩ := pm_bd hf
    rcases v211 with z214 | w213
    · have hf := pt_kl hf
      cases hf
      exact pm_S3.trans (show pm_S3 z214.2 _ from kpX16_takeResults e212) K0
    have K215 := pm_S3.trans (show pm_S3 w213 _ from kpX16_takeResults e212) K0
    have hf := pt_kr hf
    obtain ⟨k216, hf⟩ := pm_if hf
    obtain ⟨v217, e218, hf⟩ := pm_bd hf
    have K219 := pm_S3.trans (kpX16_dies e218) K215
    cases hf
    exact K219
  have hf := pm_ie hf c209
  by_cases c220 : p1 = 16
  · have hf := pm_it hf c220
    obtain ⟨k221, hf⟩ := pm_if hf
    obtain ⟨v222, e223, hf⟩ := pm_bd hf
    obtain ⟨v224, e225, hf⟩ := pm_bd hf
    have K226 := pm_S3.trans (kpX16_word e225) K0
    obtain ⟨k227, hf⟩ := pm_if hf
    obtain ⟨v228, e229, hf⟩ := pm_bd hf
    obtain ⟨k230, hf⟩ := pm_if hf
    obtain ⟨v231, e232, hf⟩ := pm_bd hf
    rcases v231 with z234 | w233
    · have hf := pt_kl hf
      cases hf
      exact pm_S3.trans (show pm_S3 z234.2 _ from kpX16_takeParameters e232) K226
    have K235 := pm_S3.trans (show pm_S3 w233 _ from kpX16_takeParameters e232) K226
    have hf := pt_kr hf
    obtain ⟨k236, hf⟩ := pm_if hf
    obtain ⟨v237, e238, hf⟩ := pm_bd hf
    rcases v237 with z240 | w239
    · have hf := pt_kl hf
      cases hf
      exact pm_S3.trans (show pm_S3 z240.2 _ from kpX16_putResults e238) K235
    have K241 := pm_S3.trans (show pm_S3 w239 _ from kpX16_putResults e238) K235
    have hf := pt_kr hf
    cases hf
    exact K241
  have hf := pm_ie hf c220
  by_cases c242 : p1 = 17
  · have hf := pm_it hf c242
    obtain ⟨k243, hf⟩ := pm_if hf
    obtain ⟨v244, e245, hf⟩ := pm_bd hf
    have K246 := pm_S3.trans (kpX16_word e245) K0
    obtain ⟨k247, hf⟩ := pm_if hf
    obtain ⟨v248, e249, hf⟩ := pm_bd hf
    rcases v248 with z251 | w250
    · have hf := pt_kl hf
      cases hf
      exact pm_S3.trans (show pm_S3 z251.2 _ from kpX16_takes e249) K246
    have K252 := pm_S3.trans (show pm_S3 w250 _ from kpX16_takes e249) K246
    have hf := pt_kr hf
    obtain ⟨k253, hf⟩ := pm_if hf
    obtain ⟨v254, e255, hf⟩ := pm_bd hf
    rcases v254 with z257 | w256
    · have hf := pt_kl hf
      cases hf
      exact pm_S3.trans (show pm_S3 z257.2 _ from kpX16_takeParameters e255) K252
    have K258 := pm_S3.trans (show pm_S3 w256 _ from kpX16_takeParameters e255) K252
    have hf := pt_kr hf
    obtain ⟨k259, hf⟩ := pm_if hf
    obtain ⟨v260, e261, hf⟩ := pm_bd hf
    rcases v260 with z263 | w262
    · have hf := pt_kl hf
      cases hf
      exact pm_S3.trans (show pm_S3 z263.2 _ from kpX16_putResults e261) K258
    have K264 := pm_S3.trans (show pm_S3 w262 _ from kpX16_putResults e261) K258
    have hf := pt_kr hf
    cases hf
    exact K264
  have hf := pm_ie hf c242
  by_cases c265 : p1 = 18
  · have hf := pm_it hf c265
    cases hf
    exact K0
  have hf := pm_ie hf c265
  by_cases c266 : p1 = 19
  · have hf := pm_it hf c266
    cases hf
    exact K0
  have hf := pm_ie hf c266
  by_cases c267 : p1 = 20
  · have hf := pm_it hf c267
    cases hf
    exact K0
  have hf := pm_ie hf c267
  by_cases c268 : p1 = 21
  · have hf := pm_it hf c268
    cases hf
    exact K0
  have hf := pm_ie hf c268
  by_cases c269 : p1 = 22
  · have hf := pm_it hf c269
    cases hf
    exact K0
  have hf := pm_ie hf c269
  by_cases c270 : p1 = 23
  · have hf := pm_it hf c270
    cases hf
    exact K0
  have hf := pm_ie hf c270
  by_cases c271 : p1 = 24
  · have hf := pm_it hf c271
    cases hf
    exact K0
  have hf := pm_ie hf c271
  by_cases c272 : p1 = 25
  · have hf := pm_it hf c272
    cases hf
    exact K0
  have hf := pm_ie hf c272
  by_cases c273 : p1 = 26
  · have hf := pm_it hf c273
    obtain ⟨k274, hf⟩ := pm_if hf
    obtain ⟨v275, e276, hf⟩ := pm_bd hf
    rcases v275 with z278 | w277
    · have hf := pt_kl hf
      cases hf
      exact pm_S3.trans (show pm_S3 z278.2 _ from kpX16_take e276) K0
    have K279 := pm_S3.trans (show pm_S3 w277.2 _ from kpX16_take e276) K0
    have hf := pt_kr hf
    cases hf
    exact K279
  have hf := pm_ie hf c273
  by_cases c280 : p1 = 27
  · have hf := pm_it hf c280
    obtain ⟨k281, hf⟩ := pm_if hf
    obtain ⟨v282, e283, hf⟩ := pm_bd hf
    rcases v282 with z285 | w284
    · have hf := pt_kl hf
      cases hf
      exact pm_S3.trans (show pm_S3 z285.2 _ from kpX16_selects e283) K0
    have K286 := pm_S3.trans (show pm_S3 w284 _ from kpX16_selects e283) K0
    have hf := pt_kr hf
    cases hf
    exact K286
  have hf := pm_ie hf c280
  by_cases c287 : p1 = 28
  · have hf := pm_it hf c287
    obtain ⟨k288, hf⟩ := pm_if hf
    obtain ⟨v289, e290, hf⟩ := pm_bd hf
    have K291 := pm_S3.trans (kpX16_word e290) K0
    obtain ⟨k292, hf⟩ := pm_if hf
    obtain ⟨v293, e294, hf⟩ := pm_bd hf
    obtain ⟨k295, hf⟩ := pm_if hf
    obtain ⟨v296, e297, hf⟩ := pm_bd hf
    obtain ⟨v298, e299, hf⟩ := pm_bd hf
    rcases v298 with z301 | w300
    · have hf := pt_kl hf
      cases hf
      exact pm_S3.trans (show pm_S3 z301.2 _ from kpX16_takes e299) K291
    have K302 := pm_S3.trans (show pm_S3 w300 _ from kpX16_takes e299) K291
    have hf := pt_kr hf
    obtain ⟨k303, hf⟩ := pm_if hf
    obtain ⟨v304, e305, hf⟩ := pm_bd hf
    rcases v304 with z307 | w306
    · have hf := pt_kl hf
      cases hf
      exact pm_S3.trans (show pm_S3 z307.2 _ from kpX16_takes e305) K302
    have K308 := pm_S3.trans (show pm_S3 w306 _ from kpX16_takes e305) K302
    have hf := pt_kr hf
    obtain ⟨k309, hf⟩ := pm_if hf
    obtain ⟨v310, e311, hf⟩ := pm_bd hf
    rcases v310 with z313 | w312
    · have hf := pt_kl hf
      cases hf
      exact pm_S3.trans (show pm_S3 z313.2 _ from kpX16_put e311) K308
    have K314 := pm_S3.trans (show pm_S3 w312 _ from kpX16_put e311) K308
    have hf := pt_kr hf
    cases hf
    exact K314
  have hf := pm_ie hf c287
  cases hf
  exact K0
set_option maxHeartbeats 4000000 in
set_option maxRecDepth 100000 in
theorem klX16_expression {r : ((Nat × pm_H) ⊕ pm_H)} : ∀ n : Nat, (∀ (x0 : Nat) (x1 : Int32) (x2 : Int32) (h : pm_H), pm_iter sX16_expression n (.inl (x0, x1, x2, h)) = some r → pt_SV r h) ∧ (∀ (x0 : Nat) (x1 : Int32) (x2 : Int32) (x3 : Int32) (x4 : Int32) (h : pm_H), pm_iter sX16_expression n (.inr (x0, x1, x2, x3, x4, h)) = some r → pt_SV r h) := by
  intro n
  induction n with
  | zero => exact ⟨fun _ _ _ _ hf => (by cases hf), fun _ _ _ _ _ _ hf => (by cases hf)⟩
  | succ n ih =>
    refine ⟨fun x0 x1 x2 h hf => ?_, ?_⟩
    · obtain ⟨y, hf, hi⟩ := pm_iter_s hf
      have hf : tX16_expression_9 x0 x1 x2 h = some y := hf
      unfold tX16_expression_9 at hf
      have K0 := pm_S3.rf h
      by_cases c6 : x2 ≤ 0
      · have hf := pm_it hf c6
        cases hf
        cases hi
        exact K0
      · have hf := pm_ie hf c6
        obtain ⟨k7, hf⟩ := pm_if hf
        obtain ⟨y8, e9, hf⟩ := pm_lt hf
        obtain ⟨v10, e11, hf⟩ := pm_bd hf
        rcases v10 with z13 | w12
        · have hf := pt_sl hf
          cases hf
          cases hi
          exact pm_S3.trans (show pm_S3 z13.2 _ from kpX16_next e11) K0
        have K14 := pm_S3.trans (show pm_S3 w12.2 _ from kpX16_next e11) K0
        have hf := pt_sr hf
        by_cases c15 : w12.1 = 11
        · have hf := pm_it hf c15
          obtain ⟨y16, e17, hf⟩ := pm_lt hf
          by_cases c18 : y16 ≤ 0
          · have hf := pm_it hf c18
            by_cases c19 : y16 ≤ 0
            · have hf := pm_it hf c19
              cases hf
              exact pt_SV.trans (ih.1 x0 x1 y16 w12.2 hi) K14
            · have hf := pm_ie hf c19
              obtain ⟨k20, hf⟩ := pm_if hf
              obtain ⟨v21, e22, hf⟩ := pm_bd hf
              obtain ⟨k23, hf⟩ := pm_if hf
              obtain ⟨v24, e25, hf⟩ := pm_bd hf
              obtain ⟨v26, e27, hf⟩ := pm_bd hf
              obtain ⟨k28, hf⟩ := pm_if hf
              obtain ⟨u29, hf⟩ := pm_if hf
              obtain ⟨y30, e31, hf⟩ := pm_lt hf
              obtain ⟨k32, hf⟩ := pm_if hf
              obtain ⟨u33, hf⟩ := pm_if hf
              by_cases c34 : (pm_I w12.2 v24 y30.toNatClampNeg) ≤ 0
              · have hf := pm_it hf c34
                cases hf
                exact pt_SV.trans (ih.1 x0 x1 y16 w12.2 hi) K14
              · have hf := pm_ie hf c34
                obtain ⟨v35, e36, hf⟩ := pm_bd hf
                obtain ⟨u37, hf⟩ := pm_if hf
                obtain ⟨y38, e39, hf⟩ := pm_lt hf
                obtain ⟨u40, hf⟩ := pm_if hf
                obtain ⟨k41, hf⟩ := pm_if hf
                obtain ⟨u42, hf⟩ := pm_if hf
                cases hf
                exact pt_SV.trans (ih.1 x0 x1 y16 (pm_setI w12.2 v35 ((pm_I w12.2 v24 y38.toNatClampNeg).toNatClampNeg) y8) hi) K14
          · have hf := pm_ie hf c18
            obtain ⟨k43, hf⟩ := pm_if hf
            obtain ⟨v44, e45, hf⟩ := pm_bd hf
            obtain ⟨k46, hf⟩ := pm_if hf
            obtain ⟨v47, e48, hf⟩ := pm_bd hf
            obtain ⟨v49, e50, hf⟩ := pm_bd hf
            obtain ⟨k51, hf⟩ := pm_if hf
            obtain ⟨u52, hf⟩ := pm_if hf
            obtain ⟨k53, hf⟩ := pm_if hf
            obtain ⟨u54, hf⟩ := pm_if hf
            by_cases c55 : y16 ≤ 0
            · have hf := pm_it hf c55
              cases hf
              exact pt_SV.trans (ih.1 x0 x1 y16 (pm_setI w12.2 v47 ((pm_I w12.2 v49 y16.toNatClampNeg).toNatClampNeg) y8) hi) K14
            · have hf := pm_ie hf c55
              obtain ⟨v56, e57, hf⟩ := pm_bd hf
              obtain ⟨u58, hf⟩ := pm_if hf
              obtain ⟨y59, e60, hf⟩ := pm_lt hf
              obtain ⟨k61, hf⟩ := pm_if hf
              obtain ⟨u62, hf⟩ := pm_if hf
              by_cases c63 : (pm_I (pm_setI w12.2 v47 ((pm_I w12.2 v49 y16.toNatClampNeg).toNatClampNeg) y8) v56 y59.toNatClampNeg) ≤ 0
              · have hf := pm_it hf c63
                cases hf
                exact pt_SV.trans (ih.1 x0 x1 y16 (pm_setI w12.2 v47 ((pm_I w12.2 v49 y16.toNatClampNeg).toNatClampNeg) y8) hi) K14
              · have hf := pm_ie hf c63
                obtain ⟨u64, hf⟩ := pm_if hf
                obtain ⟨y65, e66, hf⟩ := pm_lt hf
                obtain ⟨u67, hf⟩ := pm_if hf
                obtain ⟨u68, hf⟩ := pm_if hf
                cases hf
                exact pt_SV.trans (ih.1 x0 x1 y16 (pm_setI (pm_setI w12.2 v47 ((pm_I w12.2 v49 y16.toNatClampNeg).toNatClampNeg) y8) v47 ((pm_I (pm_setI w12.2 v47 ((pm_I w12.2 v49 y16.toNatClampNeg).toNatClampNeg) y8) v56 y65.toNatClampNeg).toNatClampNeg) y8) hi) K14
        · have hf := pm_ie hf c15
          by_cases c69 : w12.1 < 2
          · have hf := pm_it hf c69
            cases hf
            exact pt_SV.trans (ih.2 x0 x1 x2 y8 w12.1 w12.2 hi) K14
          · have hf := pm_ie hf c69
            by_cases c70 : 4 < w12.1
            · have hf := pm_it hf c70
              cases hf
              exact pt_SV.trans (ih.2 x0 x1 x2 y8 w12.1 w12.2 hi) K14
            · have hf := pm_ie hf c70
              obtain ⟨k71, hf⟩ := pm_if hf
              obtain ⟨v72, e73, hf⟩ := pm_bd hf
              rcases v72 with z75 | w74
              · have hf := pt_sl hf
                cases hf
                cases hi
                exact pm_S3.trans (show pm_S3 z75.2 _ from kpX16_blockType e73) K14
              have K76 := pm_S3.trans (show pm_S3 w74 _ from kpX16_blockType e73) K14
              have hf := pt_sr hf
              obtain ⟨k77, hf⟩ := pm_if hf
              obtain ⟨v78, e79, hf⟩ := pm_bd hf
              obtain ⟨k80, hf⟩ := pm_if hf
              obtain ⟨u81, hf⟩ := pm_if hf
              obtain ⟨v82, e83, hf⟩ := pm_bd hf
              obtain ⟨k84, hf⟩ := pm_if hf
              obtain ⟨u85, hf⟩ := pm_if hf
              obtain ⟨y86, e87, hf⟩ := pm_lt hf
              cases hf
              exact pt_SV.trans (ih.1 x0 x1 y86 (pm_setI (pm_setI w74 v78 x2.toNatClampNeg w12.1) v82 x2.toNatClampNeg y8) hi) K76
    refine fun x0 x1 x2 x3 x4 h hf => ?_
    obtain ⟨y, hf, hi⟩ := pm_iter_s hf
    have hf : tX16_expression_137 x0 x1 x2 x3 x4 h = some y := hf
    unfold tX16_expression_137 at hf
    have K0 := pm_S3.rf h
    by_cases c88 : x4 = 5
    · have hf := pm_it hf c88
      obtain ⟨k89, hf⟩ := pm_if hf
      obtain ⟨v90, e91, hf⟩ := pm_bd hf
      obtain ⟨y92, e93, hf⟩ := pm_lt hf
      obtain ⟨k94, hf⟩ := pm_if hf
      obtain ⟨u95, hf⟩ := pm_if hf
      by_cases c96 : (pm_I h v90 y92.toNatClampNeg) = 4
      · have hf := pm_it hf c96
        obtain ⟨u97, hf⟩ := pm_if hf
        obtain ⟨v98, e99, hf⟩ := pm_bd hf
        obtain ⟨k100, hf⟩ := pm_if hf
        obtain ⟨v101, e102, hf⟩ := pm_bd hf
        obtain ⟨v103, e104, hf⟩ := pm_bd hf
        obtain ⟨y105, e106, hf⟩ := pm_lt hf
        obtain ⟨k107, hf⟩ := pm_if hf
        obtain ⟨u108, hf⟩ := pm_if hf
        obtain ⟨k109, hf⟩ := pm_if hf
        obtain ⟨u110, hf⟩ := pm_if hf
        cases hf
        exact pt_SV.trans (ih.1 x0 x1 x2 (pm_setI (pm_setI h v90 ((x2 - 1).toNatClampNeg) 5) v101 ((pm_I (pm_setI h v90 ((x2 - 1).toNatClampNeg) 5) v103 y105.toNatClampNeg).toNatClampNeg) x3) hi) K0
      · have hf := pm_ie hf c96
        obtain ⟨v111, e112, hf⟩ := pm_bd hf
        rcases v111 with z114 | w113
        · have hf := pt_sl hf
          cases hf
          cases hi
          exact pm_S3.trans (show pm_S3 z114.2 _ from kpX16_stops e112) K0
        have K115 := pm_S3.trans (show pm_S3 w113 _ from kpX16_stops e112) K0
        have hf := pt_sr hf
        obtain ⟨k116, hf⟩ := pm_if hf
        obtain ⟨v117, e118, hf⟩ := pm_bd hf
        obtain ⟨k119, hf⟩ := pm_if hf
        obtain ⟨u120, hf⟩ := pm_if hf
        obtain ⟨v121, e122, hf⟩ := pm_bd hf
        obtain ⟨k123, hf⟩ := pm_if hf
        obtain ⟨v124, e125, hf⟩ := pm_bd hf
        obtain ⟨v126, e127, hf⟩ := pm_bd hf
        obtain ⟨y128, e129, hf⟩ := pm_lt hf
        obtain ⟨k130, hf⟩ := pm_if hf
        obtain ⟨u131, hf⟩ := pm_if hf
        obtain ⟨k132, hf⟩ := pm_if hf
        obtain ⟨u133, hf⟩ := pm_if hf
        cases hf
        exact pt_SV.trans (ih.1 x0 x1 x2 (pm_setI (pm_setI w113 v117 ((x2 - 1).toNatClampNeg) 5) v124 ((pm_I (pm_setI w113 v117 ((x2 - 1).toNatClampNeg) 5) v126 y128.toNatClampNeg).toNatClampNeg) x3) hi) K115
    · have hf := pm_ie hf c88
      obtain ⟨k134, hf⟩ := pm_if hf
      obtain ⟨v135, e136, hf⟩ := pm_bd hf
      rcases v135 with z138 | w137
      · have hf := pt_sl hf
        cases hf
        cases hi
        exact pm_S3.trans (show pm_S3 z138.2 _ from kpX16_operands e136) K0
      have K139 := pm_S3.trans (show pm_S3 w137 _ from kpX16_operands e136) K0
      have hf := pt_sr hf
      cases hf
      exact pt_SV.trans (ih.1 x0 x1 x2 w137 hi) K139
set_option maxHeartbeats 4000000 in
set_option maxRecDepth 100000 in
theorem kpX16_expression {h : pm_H} {a0 : Nat} {p1 : Int32} {r : ((Nat × pm_H) ⊕ pm_H)} (hf : fX16_expression h a0 p1 = some r) : pt_SV r h := by
  unfold fX16_expression at hf
  have K0 := pm_S3.rf h
  obtain ⟨k1, hf⟩ := pm_if hf
  obtain ⟨v2, e3, hf⟩ := pm_bd hf
  obtain ⟨k4, hf⟩ := pm_if hf
  obtain ⟨u5, hf⟩ := pm_if hf
  obtain ⟨n, hn⟩ := pm_lim_iter hf
  exact pt_SV.trans ((klX16_expression n).1 a0 p1 1 (pm_setI h v2 ((0 : Int32).toNatClampNeg) 0) hn) K0
set_option maxHeartbeats 4000000 in
set_option maxRecDepth 100000 in
theorem kpX16_furthers {h : pm_H} {a0 : Nat} {r : ((Nat × pm_H) ⊕ pm_H)} (hf : fX16_furthers h a0 = some r) : pt_SV r h := by
  unfold fX16_furthers at hf
  have K0 := pm_S3.rf h
  obtain ⟨k1, hf⟩ := pm_if hf
  obtain ⟨v2, e3, hf⟩ := pm_bd hf
  have K4 := pm_S3.trans (kpX16_word e3) K0
  by_cases c5 : 8 ≤ v2.1.toInt32
  · have hf := pm_it hf c5
    by_cases c6 : v2.1.toInt32 = 15
    · have hf := pm_it hf c6
      obtain ⟨k7, hf⟩ := pm_if hf
      obtain ⟨v8, e9, hf⟩ := pm_bd hf
      obtain ⟨v10, e11, hf⟩ := pm_bd hf
      have K12 := pm_S3.trans (kpX16_word e11) K4
      obtain ⟨k13, hf⟩ := pm_if hf
      obtain ⟨v14, e15, hf⟩ := pm_bd hf
      obtain ⟨k16, hf⟩ := pm_if hf
      obtain ⟨v17, e18, hf⟩ := pm_bd hf
      rcases v17 with z20 | w19
      · have hf := pt_kl hf
        cases hf
        exact pm_S3.trans (show pm_S3 z20.2 _ from kpX16_takes e18) K12
      have K21 := pm_S3.trans (show pm_S3 w19 _ from kpX16_takes e18) K12
      have hf := pt_kr hf
      obtain ⟨k22, hf⟩ := pm_if hf
      obtain ⟨v23, e24, hf⟩ := pm_bd hf
      rcases v23 with z26 | w25
      · have hf := pt_kl hf
        cases hf
        exact pm_S3.trans (show pm_S3 z26.2 _ from kpX16_takes e24) K21
      have K27 := pm_S3.trans (show pm_S3 w25 _ from kpX16_takes e24) K21
      have hf := pt_kr hf
      by_cases c28 : v2.1.toInt32 = 17
      · have hf := pm_it hf c28
        obtain ⟨k29, hf⟩ := pm_if hf
        obtain ⟨v30, e31, hf⟩ := pm_bd hf
        rcases v30 with z33 | w32
        · have hf := pt_kl hf
          cases hf
          exact pm_S3.trans (show pm_S3 z33.2 _ from kpX16_takes e31) K27
        have K34 := pm_S3.trans (show pm_S3 w32 _ from kpX16_takes e31) K27
        have hf := pt_kr hf
        cases hf
        exact K34
      · have hf := pm_ie hf c28
        obtain ⟨k35, hf⟩ := pm_if hf
        obtain ⟨v36, e37, hf⟩ := pm_bd hf
        rcases v36 with z39 | w38
        · have hf := pt_kl hf
          cases hf
          exact pm_S3.trans (show pm_S3 z39.2 _ from kpX16_put e37) K27
        have K40 := pm_S3.trans (show pm_S3 w38 _ from kpX16_put e37) K27
        have hf := pt_kr hf
        cases hf
        exact K40
    · have hf := pm_ie hf c6
      by_cases c41 : v2.1.toInt32 = 17
      · have hf := pm_it hf c41
        obtain ⟨k42, hf⟩ := pm_if hf
        obtain ⟨v43, e44, hf⟩ := pm_bd hf
        obtain ⟨v45, e46, hf⟩ := pm_bd hf
        have K47 := pm_S3.trans (kpX16_word e46) K4
        obtain ⟨k48, hf⟩ := pm_if hf
        obtain ⟨v49, e50, hf⟩ := pm_bd hf
        obtain ⟨k51, hf⟩ := pm_if hf
        obtain ⟨v52, e53, hf⟩ := pm_bd hf
        rcases v52 with z55 | w54
        · have hf := pt_kl hf
          cases hf
          exact pm_S3.trans (show pm_S3 z55.2 _ from kpX16_takes e53) K47
        have K56 := pm_S3.trans (show pm_S3 w54 _ from kpX16_takes e53) K47
        have hf := pt_kr hf
        obtain ⟨k57, hf⟩ := pm_if hf
        obtain ⟨v58, e59, hf⟩ := pm_bd hf
        rcases v58 with z61 | w60
        · have hf := pt_kl hf
          cases hf
          exact pm_S3.trans (show pm_S3 z61.2 _ from kpX16_takes e59) K56
        have K62 := pm_S3.trans (show pm_S3 w60 _ from kpX16_takes e59) K56
        have hf := pt_kr hf
        by_cases c63 : v2.1.toInt32 = 17
        · have hf := pm_it hf c63
          obtain ⟨k64, hf⟩ := pm_if hf
          obtain ⟨v65, e66, hf⟩ := pm_bd hf
          rcases v65 with z68 | w67
          · have hf := pt_kl hf
            cases hf
            exact pm_S3.trans (show pm_S3 z68.2 _ from kpX16_takes e66) K62
          have K69 := pm_S3.trans (show pm_S3 w67 _ from kpX16_takes e66) K62
          have hf := pt_kr hf
          cases hf
          exact K69
        · have hf := pm_ie hf c63
          obtain ⟨k70, hf⟩ := pm_if hf
          obtain ⟨v71, e72, hf⟩ := pm_bd hf
          rcases v71 with z74 | w73
          · have hf := pt_kl hf
            cases hf
            exact pm_S3.trans (show pm_S3 z74.2 _ from kpX16_put e72) K62
          have K75 := pm_S3.trans (show pm_S3 w73 _ from kpX16_put e72) K62
          have hf := pt_kr hf
          cases hf
          exact K75
      · have hf := pm_ie hf c41
        by_cases c76 : v2.1.toInt32 = 16
        · have hf := pm_it hf c76
          obtain ⟨k77, hf⟩ := pm_if hf
          obtain ⟨v78, e79, hf⟩ := pm_bd hf
          rcases v78 with z81 | w80
          · have hf := pt_kl hf
            cases hf
            exact pm_S3.trans (show pm_S3 z81.2 _ from kpX16_put e79) K4
          have K82 := pm_S3.trans (show pm_S3 w80 _ from kpX16_put e79) K4
          have hf := pt_kr hf
          cases hf
          exact K82
        · have hf := pm_ie hf c76
          by_cases c83 : v2.1.toInt32 = 9
          · have hf := pm_it hf c83
            cases hf
            exact K4
          · have hf := pm_ie hf c83
            by_cases c84 : v2.1.toInt32 = 13
            · have hf := pm_it hf c84
              cases hf
              exact K4
            · have hf := pm_ie hf c84
              obtain ⟨k85, hf⟩ := pm_if hf
              obtain ⟨v86, e87, hf⟩ := pm_bd hf
              rcases v86 with z89 | w88
              · have hf := pt_kl hf
                cases hf
                exact pm_S3.trans (show pm_S3 z89.2 _ from kpX16_takes e87) K4
              have K90 := pm_S3.trans (show pm_S3 w88 _ from kpX16_takes e87) K4
              have hf := pt_kr hf
              cases hf
              exact K90
  · have hf := pm_ie hf c5
    obtain ⟨k91, hf⟩ := pm_if hf
    obtain ⟨v92, e93, hf⟩ := pm_bd hf
    rcases v92 with z95 | w94
    · have hf := pt_kl hf
      cases hf
      exact pm_S3.trans (show pm_S3 z95.2 _ from kpX16_operates e93) K4
    have K96 := pm_S3.trans (show pm_S3 w94 _ from kpX16_operates e93) K4
    have hf := pt_kr hf
    cases hf
    exact K96
set_option maxHeartbeats 4000000 in
set_option maxRecDepth 100000 in
theorem kpX16_goesTogether_b21 {h : pm_H} {x0 : Nat} {x1 : Int32} {r : ((Nat × pm_H) ⊕ pm_H)} (hf : fX16_goesTogether_b21 h x0 x1 = some r) : pt_SV r h := by
  unfold fX16_goesTogether_b21 at hf
  have K0 := pm_S3.rf h
  by_cases c9 : 32 ≤ x1
  · have hf := pm_it hf c9
    by_cases c10 : 40 ≤ x1
    · have hf := pm_it hf c10
      by_cases c11 : 63 ≤ x1
      · have hf := pm_it hf c11
        by_cases c12 : x1 = 252
        · have hf := pm_it hf c12
          obtain ⟨k13, hf⟩ := pm_if hf
          obtain ⟨v14, e15, hf⟩ := pm_bd hf
          rcases v14 with z17 | w16
          · have hf := pt_kl hf
            cases hf
            exact pm_S3.trans (show pm_S3 z17.2 _ from kpX16_furthers e15) K0
          have K18 := pm_S3.trans (show pm_S3 w16 _ from kpX16_furthers e15) K0
          have hf := pt_kr hf
          cases hf
          exact K18
        · have hf := pm_ie hf c12
          by_cases c19 : x1 = 63
          · have hf := pm_it hf c19
            obtain ⟨k20, hf⟩ := pm_if hf
            obtain ⟨v21, e22, hf⟩ := pm_bd hf
            rcases v21 with z24 | w23
            · have hf := pt_kl hf
              cases hf
              exact pm_S3.trans (show pm_S3 z24.2 _ from kpX16_put e22) K0
            have K25 := pm_S3.trans (show pm_S3 w23 _ from kpX16_put e22) K0
            have hf := pt_kr hf
            cases hf
            exact K25
          · have hf := pm_ie hf c19
            by_cases c26 : x1 = 64
            · have hf := pm_it hf c26
              obtain ⟨k27, hf⟩ := pm_if hf
              obtain ⟨v28, e29, hf⟩ := pm_bd hf
              rcases v28 with z31 | w30
              · have hf := pt_kl hf
                cases hf
                exact pm_S3.trans (show pm_S3 z31.2 _ from kpX16_takes e29) K0
              have K32 := pm_S3.trans (show pm_S3 w30 _ from kpX16_takes e29) K0
              have hf := pt_kr hf
              obtain ⟨k33, hf⟩ := pm_if hf
              obtain ⟨v34, e35, hf⟩ := pm_bd hf
              rcases v34 with z37 | w36
              · have hf := pt_kl hf
                cases hf
                exact pm_S3.trans (show pm_S3 z37.2 _ from kpX16_put e35) K32
              have K38 := pm_S3.trans (show pm_S3 w36 _ from kpX16_put e35) K32
              have hf := pt_kr hf
              cases hf
              exact K38
            · have hf := pm_ie hf c26
              by_cases c39 : 69 ≤ x1
              · have hf := pm_it hf c39
                by_cases c40 : x1 = 208
                · have hf := pm_it hf c40
                  obtain ⟨k41, hf⟩ := pm_if hf
                  obtain ⟨v42, e43, hf⟩ := pm_bd hf
                  obtain ⟨k44, hf⟩ := pm_if hf
                  obtain ⟨v45, e46, hf⟩ := pm_bd hf
                  obtain ⟨v47, e48, hf⟩ := pm_bd hf
                  rcases v47 with z50 | w49
                  · have hf := pt_kl hf
                    cases hf
                    exact pm_S3.trans (show pm_S3 z50.2 _ from kpX16_put e48) K0
                  have K51 := pm_S3.trans (show pm_S3 w49 _ from kpX16_put e48) K0
                  have hf := pt_kr hf
                  cases hf
                  exact K51
                · have hf := pm_ie hf c40
                  by_cases c52 : x1 = 209
                  · have hf := pm_it hf c52
                    obtain ⟨k53, hf⟩ := pm_if hf
                    obtain ⟨v54, e55, hf⟩ := pm_bd hf
                    rcases v54 with z57 | w56
                    · have hf := pt_kl hf
                      cases hf
                      exact pm_S3.trans (show pm_S3 z57.2 _ from kpX16_take e55) K0
                    have K58 := pm_S3.trans (show pm_S3 w56.2 _ from kpX16_take e55) K0
                    have hf := pt_kr hf
                    by_cases c59 : w56.1 = (-1)
                    · have hf := pm_it hf c59
                      obtain ⟨k60, hf⟩ := pm_if hf
                      obtain ⟨v61, e62, hf⟩ := pm_bd hf
                      rcases v61 with z64 | w63
                      · have hf := pt_kl hf
                        cases hf
                        exact pm_S3.trans (show pm_S3 z64.2 _ from kpX16_put e62) K58
                      have K65 := pm_S3.trans (show pm_S3 w63 _ from kpX16_put e62) K58
                      have hf := pt_kr hf
                      cases hf
                      exact K65
                    · have hf := pm_ie hf c59
                      obtain ⟨v66, e67, hf⟩ := pm_lt hf
                      by_cases c68 : v66 = 0
                      · have hf := pm_it hf c68
                        obtain ⟨k69, hf⟩ := pm_if hf
                        obtain ⟨v70, e71, hf⟩ := pm_bd hf
                        rcases v70 with z73 | w72
                        · have hf := pt_kl hf
                          cases hf
                          exact pm_S3.trans (show pm_S3 z73.2 _ from kpX16_stops e71) K58
                        have K74 := pm_S3.trans (show pm_S3 w72 _ from kpX16_stops e71) K58
                        have hf := pt_kr hf
                        obtain ⟨k75, hf⟩ := pm_if hf
                        obtain ⟨v76, e77, hf⟩ := pm_bd hf
                        rcases v76 with z79 | w78
                        · have hf := pt_kl hf
                          cases hf
                          exact pm_S3.trans (show pm_S3 z79.2 _ from kpX16_put e77) K74
                        have K80 := pm_S3.trans (show pm_S3 w78 _ from kpX16_put e77) K74
                        have hf := pt_kr hf
                        cases hf
                        exact K80
                      · have hf := pm_ie hf c68
                        obtain ⟨k81, hf⟩ := pm_if hf
                        obtain ⟨v82, e83, hf⟩ := pm_bd hf
                        rcases v82 with z85 | w84
                        · have hf := pt_kl hf
                          cases hf
                          exact pm_S3.trans (show pm_S3 z85.2 _ from kpX16_put e83) K58
                        have K86 := pm_S3.trans (show pm_S3 w84 _ from kpX16_put e83) K58
                        have hf := pt_kr hf
                        cases hf
                        exact K86
                  · have hf := pm_ie hf c52
                    obtain ⟨k87, hf⟩ := pm_if hf
                    obtain ⟨v88, e89, hf⟩ := pm_bd hf
                    rcases v88 with z91 | w90
                    · have hf := pt_kl hf
                      cases hf
                      exact pm_S3.trans (show pm_S3 z91.2 _ from kpX16_put e89) K0
                    have K92 := pm_S3.trans (show pm_S3 w90 _ from kpX16_put e89) K0
                    have hf := pt_kr hf
                    cases hf
                    exact K92
              · have hf := pm_ie hf c39
                obtain ⟨k93, hf⟩ := pm_if hf
                obtain ⟨v94, e95, hf⟩ := pm_bd hf
                rcases v94 with z97 | w96
                · have hf := pt_kl hf
                  cases hf
                  exact pm_S3.trans (show pm_S3 z97.2 _ from kpX16_put e95) K0
                have K98 := pm_S3.trans (show pm_S3 w96 _ from kpX16_put e95) K0
                have hf := pt_kr hf
                cases hf
                exact K98
      · have hf := pm_ie hf c11
        obtain ⟨k99, hf⟩ := pm_if hf
        obtain ⟨v100, e101, hf⟩ := pm_bd hf
        rcases v100 with z103 | w102
        · have hf := pt_kl hf
          cases hf
          exact pm_S3.trans (show pm_S3 z103.2 _ from kpX16_accesses e101) K0
        have K104 := pm_S3.trans (show pm_S3 w102 _ from kpX16_accesses e101) K0
        have hf := pt_kr hf
        cases hf
        exact K104
    · have hf := pm_ie hf c10
      obtain ⟨k105, hf⟩ := pm_if hf
      obtain ⟨v106, e107, hf⟩ := pm_bd hf
      rcases v106 with z109 | w108
      · have hf := pt_kl hf
        cases hf
        exact pm_S3.trans (show pm_S3 z109.2 _ from kpX16_names e107) K0
      have K110 := pm_S3.trans (show pm_S3 w108 _ from kpX16_names e107) K0
      have hf := pt_kr hf
      cases hf
      exact K110
  · have hf := pm_ie hf c9
    obtain ⟨k111, hf⟩ := pm_if hf
    obtain ⟨v112, e113, hf⟩ := pm_bd hf
    rcases v112 with z115 | w114
    · have hf := pt_kl hf
      cases hf
      exact pm_S3.trans (show pm_S3 z115.2 _ from kpX16_controls e113) K0
    have K116 := pm_S3.trans (show pm_S3 w114 _ from kpX16_controls e113) K0
    have hf := pt_kr hf
    cases hf
    exact K116
set_option maxHeartbeats 4000000 in
set_option maxRecDepth 100000 in
theorem kpX16_goesTogether {h : pm_H} {a0 : Nat} {p1 : Int32} {r : ((Nat × pm_H) ⊕ pm_H)} (hf : fX16_goesTogether h a0 p1 = some r) : pt_SV r h := by
  unfold fX16_goesTogether at hf
  have K0 := pm_S3.rf h
  by_cases c1 : p1 < 69
  · have hf := pm_it hf c1
    exact pt_SV.trans (kpX16_goesTogether_b21 hf) K0
  · have hf := pm_ie hf c1
    by_cases c2 : 196 < p1
    · have hf := pm_it hf c2
      exact pt_SV.trans (kpX16_goesTogether_b21 hf) K0
    · have hf := pm_ie hf c2
      obtain ⟨k3, hf⟩ := pm_if hf
      obtain ⟨v4, e5, hf⟩ := pm_bd hf
      rcases v4 with z7 | w6
      · have hf := pt_kl hf
        cases hf
        exact pm_S3.trans (show pm_S3 z7.2 _ from kpX16_operates e5) K0
      have K8 := pm_S3.trans (show pm_S3 w6 _ from kpX16_operates e5) K0
      have hf := pt_kr hf
      cases hf
      exact K8
set_option maxHeartbeats 4000000 in
set_option maxRecDepth 100000 in
theorem klX16_readsBody {r : ((Nat × pm_H) ⊕ pm_H)} : ∀ n : Nat, (∀ (x0 : Nat) (x1 : Int32) (x2 : Int32) (x3 : Int64) (x5 : Int64) (x7 : Int64) (h : pm_H), pm_iter sX16_readsBody n (.inl (x0, x1, x2, x3, x5, x7, h)) = some r → pt_SV r h) ∧ (∀ (x0 : Nat) (x1 : Int32) (x2 : Int32) (x5 : Int64) (h : pm_H), pm_iter sX16_readsBody n (.inr (x0, x1, x2, x5, h)) = some r → pt_SV r h) := by
  intro n
  induction n with
  | zero => exact ⟨fun _ _ _ _ _ _ _ hf => (by cases hf), fun _ _ _ _ _ hf => (by cases hf)⟩
  | succ n ih =>
    refine ⟨fun x0 x1 x2 x3 x5 x7 h hf => ?_, ?_⟩
    · obtain ⟨y, hf, hi⟩ := pm_iter_s hf
      have hf : tX16_readsBody_16 x0 x1 x2 x3 x5 x7 h = some y := hf
      unfold tX16_readsBody_16 at hf
      have K0 := pm_S3.rf h
      by_cases c9 : x3 ≤ x7
      · have hf := pm_it hf c9
        by_cases c10 : x5 ≤ 4294967295
        · have hf := pm_it hf c10
          cases hf
          exact pt_SV.trans (ih.2 x0 x1 x2 x5 h hi) K0
        · have hf := pm_ie hf c10
          obtain ⟨k11, hf⟩ := pm_if hf
          obtain ⟨v12, e13, hf⟩ := pm_bd hf
          rcases v12 with z15 | w14
          · have hf := pt_sl hf
            cases hf
            cases hi
            exact pm_S3.trans (show pm_S3 z15.2 _ from kpX16_stops e13) K0
          have K16 := pm_S3.trans (show pm_S3 w14 _ from kpX16_stops e13) K0
          have hf := pt_sr hf
          cases hf
          exact pt_SV.trans (ih.2 x0 x1 x2 x5 w14 hi) K16
      · have hf := pm_ie hf c9
        obtain ⟨k17, hf⟩ := pm_if hf
        obtain ⟨v18, e19, hf⟩ := pm_bd hf
        rcases v18 with z21 | w20
        · have hf := pt_sl hf
          cases hf
          cases hi
          exact pm_S3.trans (show pm_S3 z21.2 _ from kpX16_number e19) K0
        have K22 := pm_S3.trans (show pm_S3 w20.2 _ from kpX16_number e19) K0
        have hf := pt_sr hf
        obtain ⟨y23, e24, hf⟩ := pm_lt hf
        obtain ⟨k25, hf⟩ := pm_if hf
        obtain ⟨v26, e27, hf⟩ := pm_bd hf
        rcases v26 with z29 | w28
        · have hf := pt_sl hf
          cases hf
          cases hi
          exact pm_S3.trans (show pm_S3 z29.2 _ from kpX16_type e27) K22
        have K30 := pm_S3.trans (show pm_S3 w28.2 _ from kpX16_type e27) K22
        have hf := pt_sr hf
        obtain ⟨y31, e32, hf⟩ := pm_lt hf
        cases hf
        exact pt_SV.trans (ih.1 x0 x1 x2 x3 y23 y31 w28.2 hi) K30
    refine fun x0 x1 x2 x5 h hf => ?_
    obtain ⟨y, hf, hi⟩ := pm_iter_s hf
    have hf : tX16_readsBody_63 x0 x1 x2 x5 h = some y := hf
    unfold tX16_readsBody_63 at hf
    have K0 := pm_S3.rf h
    by_cases c33 : x5 ≤ 1000
    · have hf := pm_it hf c33
      obtain ⟨k34, hf⟩ := pm_if hf
      obtain ⟨v35, e36, hf⟩ := pm_bd hf
      have K37 := pm_S3.trans (kpX16_exceeds e36) K0
      obtain ⟨k38, hf⟩ := pm_if hf
      obtain ⟨v39, e40, hf⟩ := pm_bd hf
      obtain ⟨k41, hf⟩ := pm_if hf
      obtain ⟨v42, e43, hf⟩ := pm_bd hf
      obtain ⟨k44, hf⟩ := pm_if hf
      obtain ⟨u45, hf⟩ := pm_if hf
      obtain ⟨v46, e47, hf⟩ := pm_bd hf
      obtain ⟨k48, hf⟩ := pm_if hf
      obtain ⟨u49, hf⟩ := pm_if hf
      obtain ⟨v50, e51, hf⟩ := pm_bd hf
      obtain ⟨y52, e53, hf⟩ := pm_lt hf
      obtain ⟨k54, hf⟩ := pm_if hf
      obtain ⟨u55, hf⟩ := pm_if hf
      obtain ⟨v56, e57, hf⟩ := pm_bd hf
      rcases v56 with z59 | w58
      · have hf := pt_sl hf
        cases hf
        cases hi
        exact pm_S3.trans (show pm_S3 z59.2 _ from kpX16_expression e57) K37
      have K60 := pm_S3.trans (show pm_S3 w58 _ from kpX16_expression e57) K37
      have hf := pt_sr hf
      obtain ⟨k61, hf⟩ := pm_if hf
      obtain ⟨v62, e63, hf⟩ := pm_bd hf
      obtain ⟨k64, hf⟩ := pm_if hf
      obtain ⟨v65, e66, hf⟩ := pm_bd hf
      obtain ⟨y67, e68, hf⟩ := pm_lt hf
      obtain ⟨k69, hf⟩ := pm_if hf
      obtain ⟨u70, hf⟩ := pm_if hf
      cases hf
      cases hi
      exact K60
    · have hf := pm_ie hf c33
      obtain ⟨k71, hf⟩ := pm_if hf
      obtain ⟨v72, e73, hf⟩ := pm_bd hf
      have K74 := pm_S3.trans (kpX16_exceeds e73) K0
      obtain ⟨k75, hf⟩ := pm_if hf
      obtain ⟨v76, e77, hf⟩ := pm_bd hf
      obtain ⟨k78, hf⟩ := pm_if hf
      obtain ⟨v79, e80, hf⟩ := pm_bd hf
      obtain ⟨k81, hf⟩ := pm_if hf
      obtain ⟨u82, hf⟩ := pm_if hf
      obtain ⟨v83, e84, hf⟩ := pm_bd hf
      obtain ⟨k85, hf⟩ := pm_if hf
      obtain ⟨u86, hf⟩ := pm_if hf
      obtain ⟨v87, e88, hf⟩ := pm_bd hf
      obtain ⟨y89, e90, hf⟩ := pm_lt hf
      obtain ⟨k91, hf⟩ := pm_if hf
      obtain ⟨u92, hf⟩ := pm_if hf
      obtain ⟨v93, e94, hf⟩ := pm_bd hf
      rcases v93 with z96 | w95
      · have hf := pt_sl hf
        cases hf
        cases hi
        exact pm_S3.trans (show pm_S3 z96.2 _ from kpX16_expression e94) K74
      have K97 := pm_S3.trans (show pm_S3 w95 _ from kpX16_expression e94) K74
      have hf := pt_sr hf
      obtain ⟨k98, hf⟩ := pm_if hf
      obtain ⟨v99, e100, hf⟩ := pm_bd hf
      obtain ⟨k101, hf⟩ := pm_if hf
      obtain ⟨v102, e103, hf⟩ := pm_bd hf
      obtain ⟨y104, e105, hf⟩ := pm_lt hf
      obtain ⟨k106, hf⟩ := pm_if hf
      obtain ⟨u107, hf⟩ := pm_if hf
      cases hf
      cases hi
      exact K97
set_option maxHeartbeats 4000000 in
set_option maxRecDepth 100000 in
theorem kpX16_readsBody {h : pm_H} {a0 : Nat} {p1 : Int32} {r : ((Nat × pm_H) ⊕ pm_H)} (hf : fX16_readsBody h a0 p1 = some r) : pt_SV r h := by
  unfold fX16_readsBody at hf
  have K0 := pm_S3.rf h
  obtain ⟨k1, hf⟩ := pm_if hf
  obtain ⟨y2, e3, hf⟩ := pm_lt hf
  obtain ⟨v4, e5, hf⟩ := pm_bd hf
  rcases v4 with z7 | w6
  · have hf := pt_kl hf
    cases hf
    exact pm_S3.trans (show pm_S3 z7.2 _ from kpX16_number e5) K0
  have K8 := pm_S3.trans (show pm_S3 w6.2 _ from kpX16_number e5) K0
  have hf := pt_kr hf
  obtain ⟨n, hn⟩ := pm_lim_iter hf
  exact pt_SV.trans ((klX16_readsBody n).1 a0 p1 y2 w6.1 0 0 w6.2 hn) K8
