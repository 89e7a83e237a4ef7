abbrev WX0_emit : List Nat := [2, 4352]
set_option maxHeartbeats 4000000 in
set_option maxRecDepth 100000 in
theorem wfX0_emit {h0 h : pm_H} (K0 : pw_F WX0_emit h0 h) {a0 : Nat} {p1 : Int32} {p2 : Int32} {p3 : Int32} {p4 : Int32} {p5 : Int32}  {r : (Int32 × pm_H)} (hf : fX0_emit h a0 p1 p2 p3 p4 p5 = some r) : pw_F WX0_emit h0 r.2 := by
  unfold fX0_emit at hf
  obtain ⟨k1, hf⟩ := pm_if hf
  obtain ⟨y2, e3, hf⟩ := pm_lt hf
  by_cases c4 : y2 < 0
  · have hf := pm_it hf c4
    cases hf
    exact K0
  · have hf := pm_ie hf c4
    obtain ⟨v5, e6, hf⟩ := pm_bd hf
    obtain ⟨k7, hf⟩ := pm_if hf
    by_cases c8 : y2 ≤ ((Int32.ofNat (pm_ln h v5)) - 5)
    · have hf := pm_it hf c8
      obtain ⟨u9, hf⟩ := pm_if hf
      obtain ⟨u10, hf⟩ := pm_if hf
      obtain ⟨u11, hf⟩ := pm_if hf
      obtain ⟨u12, hf⟩ := pm_if hf
      obtain ⟨u13, hf⟩ := pm_if hf
      obtain ⟨y14, e15, hf⟩ := pm_lt hf
      cases hf
      exact (pw_sI (pw_aI (pw_aI (pw_aI (pw_aI (pw_aI K0 rfl k7 (by decide) (by decide)) (pkI rfl) k7 (by decide) (by decide)) (pkI (pkI rfl)) k7 (by decide) (by decide)) (pkI (pkI (pkI rfl))) k7 (by decide) (by decide)) (pkI (pkI (pkI (pkI rfl)))) k7 (by decide) (by decide)) (pkI (pkI (pkI (pkI (pkI rfl))))) k1 (by decide))
    · have hf := pm_ie hf c8
      cases hf
      exact K0
abbrev WX1_declare : List Nat := [4096]
set_option maxHeartbeats 4000000 in
set_option maxRecDepth 100000 in
theorem wfX1_declare {h0 h : pm_H} (K0 : pw_F WX1_declare h0 h) {a0 : Nat} {p1 : Int64}  {r : pm_H} (hf : fX1_declare h a0 p1 = some r) : pw_F WX1_declare h0 r := by
  unfold fX1_declare at hf
  by_cases c1 : p1 < 0
  · have hf := pm_it hf c1
    cases hf
    exact K0
  · have hf := pm_ie hf c1
    obtain ⟨k2, hf⟩ := pm_if hf
    obtain ⟨v3, e4, hf⟩ := pm_bd hf
    obtain ⟨k5, hf⟩ := pm_if hf
    by_cases c6 : ((Int32.ofNat (pm_ln h v3)).toInt64) ≤ p1
    · have hf := pm_it hf c6
      cases hf
      exact K0
    · have hf := pm_ie hf c6
      obtain ⟨u7, hf⟩ := pm_if hf
      cases hf
      exact (pw_aI K0 rfl k5 (by decide) (by decide))
abbrev WX1_fail : List Nat := [128, 129]
set_option maxHeartbeats 4000000 in
set_option maxRecDepth 100000 in
theorem wfX1_fail {h0 h : pm_H} (K0 : pw_F WX1_fail h0 h) {a0 : Nat} {p1 : Int32}  {r : pm_H} (hf : fX1_fail h a0 p1 = some r) : pw_F WX1_fail h0 r := by
  unfold fX1_fail at hf
  obtain ⟨k1, hf⟩ := pm_if hf
  by_cases c2 : (pm_I h a0 0) = 0
  · have hf := pm_it hf c2
    obtain ⟨v3, e4, hf⟩ := pm_bd hf
    obtain ⟨k5, hf⟩ := pm_if hf
    have k5b := (congrFun (pkI rfl) v3).symm.trans k5
    obtain ⟨y6, e7, hf⟩ := pm_lt hf
    cases hf
    exact (pw_sI (pw_sI K0 rfl k1 (by decide)) (pkI rfl) k1 (by decide))
  · have hf := pm_ie hf c2
    cases hf
    exact K0
abbrev WX1_failAt : List Nat := [128, 129]
set_option maxHeartbeats 4000000 in
set_option maxRecDepth 100000 in
theorem wfX1_failAt {h0 h : pm_H} (K0 : pw_F WX1_failAt h0 h) {a0 : Nat} {p1 : Int32} {p2 : Int32}  {r : pm_H} (hf : fX1_failAt h a0 p1 p2 = some r) : pw_F WX1_failAt h0 r := by
  unfold fX1_failAt at hf
  obtain ⟨k1, hf⟩ := pm_if hf
  by_cases c2 : (pm_I h a0 0) = 0
  · have hf := pm_it hf c2
    cases hf
    exact (pw_sI (pw_sI K0 rfl k1 (by decide)) (pkI rfl) k1 (by decide))
  · have hf := pm_ie hf c2
    cases hf
    exact K0
abbrev WX2_emit : List Nat := [260, 261, 267, 4352]
set_option maxHeartbeats 4000000 in
set_option maxRecDepth 100000 in
theorem wfX2_emit {h0 h : pm_H} (K0 : pw_F WX2_emit h0 h) {a0 : Nat} {p1 : Int32} {p2 : Int32}  {r : (Int32 × pm_H)} (hf : fX2_emit h a0 p1 p2 = some r) : pw_F WX2_emit h0 r.2 := by
  unfold fX2_emit at hf
  obtain ⟨k1, hf⟩ := pm_if hf
  obtain ⟨y2, e3, hf⟩ := pm_lt hf
  obtain ⟨v4, e5, hf⟩ := pm_bd hf
  obtain ⟨k6, hf⟩ := pm_if hf
  by_cases c7 : y2 ≤ ((Int32.ofNat (pm_ln h v4)) - 8)
  · have hf := pm_it hf c7
    obtain ⟨u8, hf⟩ := pm_if hf
    obtain ⟨y9, e10, hf⟩ := pm_lt hf
    obtain ⟨u11, hf⟩ := pm_if hf
    obtain ⟨y12, e13, hf⟩ := pm_lt hf
    cases hf
    exact (pw_sI (pw_sI (pw_aI (pw_aI K0 rfl k6 (by decide) (by decide)) (pkI rfl) k6 (by decide) (by decide)) (pkI (pkI rfl)) k1 (by decide)) (pkI (pkI (pkI rfl))) k1 (by decide))
  · have hf := pm_ie hf c7
    cases hf
    exact (pw_sI K0 rfl k1 (by decide))
abbrev WX2_markTargets : List Nat := [4096]
set_option maxHeartbeats 4000000 in
set_option maxRecDepth 100000 in
theorem wlX2_markTargets {h0 : pm_H} {r : pm_H} : ∀ n : Nat, (∀ (x0 : Nat) (x1 : Int32) (h : pm_H), pw_F WX2_markTargets h0 h → pm_iter sX2_markTargets n (x0, x1, h) = some r → pw_F WX2_markTargets h0 r) := by
  intro n
  induction n with
  | zero => exact fun _ _ _ _ hf => (by cases hf)
  | succ n ih =>
    refine fun x0 x1 h K0 hf => ?_
    obtain ⟨y, hf, hi⟩ := pm_iter_s hf
    have hf : tX2_markTargets_2 x0 x1 h = some y := hf
    unfold tX2_markTargets_2 at hf
    obtain ⟨k1, hf⟩ := pm_if hf
    obtain ⟨v2, e3, hf⟩ := pm_bd hf
    obtain ⟨k4, hf⟩ := pm_if hf
    by_cases c5 : (pm_I h v2 2) ≤ x1
    · have hf := pm_it hf c5
      cases hf
      cases hi
      exact K0
    · have hf := pm_ie hf c5
      obtain ⟨v6, e7, hf⟩ := pm_bd hf
      obtain ⟨v8, e9, hf⟩ := pm_bd hf
      obtain ⟨v10, e11, hf⟩ := pm_lt hf
      by_cases c12 : v10 = 0
      · have hf := pm_it hf c12
        obtain ⟨y13, e14, hf⟩ := pm_lt hf
        cases hf
        exact ih x0 y13 h K0  hi
      · have hf := pm_ie hf c12
        by_cases c15 : v6 < 0
        · have hf := pm_it hf c15
          obtain ⟨y16, e17, hf⟩ := pm_lt hf
          cases hf
          exact ih x0 y16 h K0  hi
        · have hf := pm_ie hf c15
          obtain ⟨v18, e19, hf⟩ := pm_bd hf
          obtain ⟨k20, hf⟩ := pm_if hf
          by_cases c21 : (Int32.ofNat (pm_ln h v18)) ≤ v6
          · have hf := pm_it hf c21
            obtain ⟨y22, e23, hf⟩ := pm_lt hf
            cases hf
            exact ih x0 y22 h K0  hi
          · have hf := pm_ie hf c21
            obtain ⟨u24, hf⟩ := pm_if hf
            obtain ⟨y25, e26, hf⟩ := pm_lt hf
            cases hf
            exact ih x0 y25 (pm_setI h v18 v6.toNatClampNeg (vp_nar .boolean 1)) (pw_aI K0 rfl k20 (by decide) (by decide))  hi
set_option maxHeartbeats 4000000 in
set_option maxRecDepth 100000 in
theorem wfX2_markTargets {h0 h : pm_H} (K0 : pw_F WX2_markTargets h0 h) {a0 : Nat}  {r : pm_H} (hf : fX2_markTargets h a0 = some r) : pw_F WX2_markTargets h0 r := by
  unfold fX2_markTargets at hf
  obtain ⟨n, hn⟩ := pm_lim_iter hf
  exact (wlX2_markTargets n) a0 0 h K0  hn
abbrev WX2_ownUnseen : List Nat := [267, 268, 4352]
set_option maxHeartbeats 4000000 in
set_option maxRecDepth 100000 in
theorem wlX2_ownUnseen {h0 : pm_H} {r : pm_H} : ∀ n : Nat, (∀ (x0 : Nat) (x1 : Int32) (x2 : Int32) (h : pm_H), pw_F WX2_ownUnseen h0 h → pm_iter sX2_ownUnseen n (x0, x1, x2, h) = some r → pw_F WX2_ownUnseen h0 r) := by
  intro n
  induction n with
  | zero => exact fun _ _ _ _ _ hf => (by cases hf)
  | succ n ih =>
    refine fun x0 x1 x2 h K0 hf => ?_
    obtain ⟨y, hf, hi⟩ := pm_iter_s hf
    have hf : tX2_ownUnseen_2 x0 x1 x2 h = some y := hf
    unfold tX2_ownUnseen_2 at hf
    by_cases c1 : x1 ≤ x2
    · have hf := pm_it hf c1
      obtain ⟨k2, hf⟩ := pm_if hf
      cases hf
      cases hi
      exact (pw_sI (pw_sI K0 rfl k2 (by decide)) (pkI rfl) k2 (by decide))
    · have hf := pm_ie hf c1
      obtain ⟨k3, hf⟩ := pm_if hf
      obtain ⟨v4, e5, hf⟩ := pm_bd hf
      obtain ⟨k6, hf⟩ := pm_if hf
      by_cases c7 : (Int32.ofNat (pm_ln h v4)) ≤ x2
      · have hf := pm_it hf c7
        cases hf
        cases hi
        exact (pw_sI (pw_sI K0 rfl k3 (by decide)) (pkI rfl) k3 (by decide))
      · have hf := pm_ie hf c7
        obtain ⟨y8, e9, hf⟩ := pm_lt hf
        obtain ⟨u10, hf⟩ := pm_if hf
        obtain ⟨y11, e12, hf⟩ := pm_lt hf
        cases hf
        exact ih x0 x1 y11 (pm_setI h v4 x2.toNatClampNeg y8) (pw_aI K0 rfl k6 (by decide) (by decide))  hi
set_option maxHeartbeats 4000000 in
set_option maxRecDepth 100000 in
theorem wfX2_ownUnseen {h0 h : pm_H} (K0 : pw_F WX2_ownUnseen h0 h) {a0 : Nat} {p1 : Int32}  {r : pm_H} (hf : fX2_ownUnseen h a0 p1 = some r) : pw_F WX2_ownUnseen h0 r := by
  unfold fX2_ownUnseen at hf
  obtain ⟨n, hn⟩ := pm_lim_iter hf
  exact (wlX2_ownUnseen n) a0 p1 0 h K0  hn
abbrev WX5_chooseCode : List Nat := [386, 390, 391]
set_option maxHeartbeats 4000000 in
set_option maxRecDepth 100000 in
theorem wfX5_chooseCode_b40 {h0 h : pm_H} (K0 : pw_F WX5_chooseCode h0 h) {x0 : Nat} {s0 : Nat}  {r : pm_H} (hf : fX5_chooseCode_b40 h x0 s0 = some r) : pw_F WX5_chooseCode h0 r := by
  unfold fX5_chooseCode_b40 at hf
  obtain ⟨k14, hf⟩ := pm_if hf
  obtain ⟨k15, hf⟩ := pm_if hf
  have k15b := (congrFun (pkI rfl) x0).symm.trans k15
  obtain ⟨v16, e17, hf⟩ := pm_bd hf
  obtain ⟨k18, hf⟩ := pm_if hf
  have k18b := (congrFun (pkI rfl) v16).symm.trans k18
  by_cases c19 : (pm_I (pm_setI h s0 7 0) v16 7) = 0
  · have hf := pm_it hf c19
    cases hf
    exact (pw_sI K0 rfl k14 (by decide))
  · have hf := pm_ie hf c19
    obtain ⟨v20, e21, hf⟩ := pm_bd hf
    obtain ⟨k22, hf⟩ := pm_if hf
    have k22b := (congrFun (pkI rfl) v20).symm.trans k22
    obtain ⟨v23, e24, hf⟩ := pm_bd hf
    cases hf
    exact (pw_sR (pw_sI K0 rfl k14 (by decide)) (pkI rfl) k18b (by decide))
set_option maxHeartbeats 4000000 in
set_option maxRecDepth 100000 in
theorem wfX5_chooseCode {h0 h : pm_H} (K0 : pw_F WX5_chooseCode h0 h) {a0 : Nat}  {r : pm_H} (hf : fX5_chooseCode h a0 = some r) : pw_F WX5_chooseCode h0 r := by
  unfold fX5_chooseCode at hf
  obtain ⟨k1, hf⟩ := pm_if hf
  obtain ⟨v2, e3, hf⟩ := pm_bd hf
  obtain ⟨k4, hf⟩ := pm_if hf
  by_cases c5 : (pm_I (pm_setI h v2 6 0) v2 7) = 0
  · have hf := pm_it hf c5
    exact wfX5_chooseCode_b40 (pw_sI K0 rfl k4 (by decide))  hf
  · have hf := pm_ie hf c5
    obtain ⟨v6, e7, hf⟩ := pm_bd hf
    obtain ⟨k8, hf⟩ := pm_if hf
    have k8b := (congrFun (pkI rfl) v6).symm.trans k8
    obtain ⟨v9, e10, hf⟩ := pm_bd hf
    obtain ⟨k11, hf⟩ := pm_if hf
    have k11b := (congrFun (pkI rfl) v9).symm.trans k11
    by_cases c12 : (Int32.ofNat (pm_ln (pm_setI h v2 6 0) v9)) ≤ 0
    · have hf := pm_it hf c12
      exact wfX5_chooseCode_b40 (pw_sI K0 rfl k4 (by decide))  hf
    · have hf := pm_ie hf c12
      by_cases c13 : (pm_I (pm_setI (pm_setI h v2 6 0) v2 7 1) v2 7) = 0
      · have hf := pm_it hf c13
        cases hf
        exact (pw_sI (pw_sI K0 rfl k4 (by decide)) (pkI rfl) k4 (by decide))
      · have hf := pm_ie hf c13
        cases hf
        exact (pw_sR (pw_sI (pw_sI K0 rfl k4 (by decide)) (pkI rfl) k4 (by decide)) (pkI (pkI rfl)) k4 (by decide))
abbrev WX5_clearFrames : List Nat := [643, 653, 654]
set_option maxHeartbeats 4000000 in
set_option maxRecDepth 100000 in
theorem wfX5_clearFrames {h0 h : pm_H} (K0 : pw_F WX5_clearFrames h0 h) {a0 : Nat}  {r : pm_H} (hf : fX5_clearFrames h a0 = some r) : pw_F WX5_clearFrames h0 r := by
  unfold fX5_clearFrames at hf
  obtain ⟨k1, hf⟩ := pm_if hf
  cases hf
  exact (pw_sI (pw_sI (pw_sI K0 rfl k1 (by decide)) (pkI rfl) k1 (by decide)) (pkI (pkI rfl)) k1 (by decide))
abbrev WX5_stop : List Nat := [640, 643, 653, 654]
set_option maxHeartbeats 4000000 in
set_option maxRecDepth 100000 in
theorem wfX5_stop {h0 h : pm_H} (K0 : pw_F WX5_stop h0 h) {a0 : Nat} {p1 : Int32}  {r : pm_H} (hf : fX5_stop h a0 p1 = some r) : pw_F WX5_stop h0 r := by
  unfold fX5_stop at hf
  obtain ⟨k1, hf⟩ := pm_if hf
  obtain ⟨v2, e3, hf⟩ := pm_bd hf
  have K4 := pw_t (by decide) K0 (wfX5_clearFrames (pw_rf _) e3)
  obtain ⟨k5, hf⟩ := pm_if hf
  cases hf
  exact (pw_sI K4 rfl k5 (by decide))
abbrev WX6_setByte : List Nat := [4224]
set_option maxHeartbeats 4000000 in
set_option maxRecDepth 100000 in
theorem wfX6_setByte {h0 h : pm_H} (K0 : pw_F WX6_setByte h0 h) {a0 : Nat} {p1 : Int32} {p2 : Int64} {p3 : Int32}  {r : pm_H} (hf : fX6_setByte h a0 p1 p2 p3 = some r) : pw_F WX6_setByte h0 r := by
  unfold fX6_setByte at hf
  obtain ⟨k1, hf⟩ := pm_if hf
  obtain ⟨v2, e3, hf⟩ := pm_bd hf
  obtain ⟨v4, e5, hf⟩ := pm_bd hf
  obtain ⟨k6, hf⟩ := pm_if hf
  obtain ⟨u7, hf⟩ := pm_if hf
  obtain ⟨v8, e9, hf⟩ := pm_bd hf
  obtain ⟨y10, e11, hf⟩ := pm_lt hf
  obtain ⟨k12, hf⟩ := pm_if hf
  by_cases c13 : (Int32.ofNat (pm_ln h v8)) ≤ y10
  · have hf := pm_it hf c13
    cases hf
    exact K0
  · have hf := pm_ie hf c13
    obtain ⟨u14, hf⟩ := pm_if hf
    cases hf
    exact (pw_aI K0 rfl k12 (by decide) (by decide))
abbrev WX7_setSpace : List Nat := [900, 901, 902, 903]
set_option maxHeartbeats 4000000 in
set_option maxRecDepth 100000 in
theorem wfX7_setSpace {h0 h : pm_H} (K0 : pw_F WX7_setSpace h0 h) {a0 : Nat} {p1 : Int32} {p2 : Nat}  {r : pm_H} (hf : fX7_setSpace h a0 p1 p2 = some r) : pw_F WX7_setSpace h0 r := by
  unfold fX7_setSpace at hf
  by_cases c1 : p1 = 0
  · have hf := pm_it hf c1
    obtain ⟨k2, hf⟩ := pm_if hf
    cases hf
    exact (pw_sR K0 rfl k2 (by decide))
  · have hf := pm_ie hf c1
    by_cases c3 : p1 = 1
    · have hf := pm_it hf c3
      obtain ⟨k4, hf⟩ := pm_if hf
      cases hf
      exact (pw_sR K0 rfl k4 (by decide))
    · have hf := pm_ie hf c3
      by_cases c5 : p1 = 2
      · have hf := pm_it hf c5
        obtain ⟨k6, hf⟩ := pm_if hf
        cases hf
        exact (pw_sR K0 rfl k6 (by decide))
      · have hf := pm_ie hf c5
        obtain ⟨k7, hf⟩ := pm_if hf
        cases hf
        exact (pw_sR K0 rfl k7 (by decide))
abbrev WX8_divide32 : List Nat := [1024]
set_option maxHeartbeats 4000000 in
set_option maxRecDepth 100000 in
theorem wfX8_divide32_b72 {h0 h : pm_H} (K0 : pw_F WX8_divide32 h0 h) {x1 : Int32} {x3 : Int32} {x4 : Int64}  {r : (Int64 × pm_H)} (hf : fX8_divide32_b72 h x1 x3 x4 = some r) : pw_F WX8_divide32 h0 r.2 := by
  unfold fX8_divide32_b72 at hf
  by_cases c16 : 7 < x1
  · have hf := pm_it hf c16
    obtain ⟨u17, hf⟩ := pm_if hf
    cases hf
    exact K0
  · have hf := pm_ie hf c16
    obtain ⟨u18, hf⟩ := pm_if hf
    cases hf
    exact K0
set_option maxHeartbeats 4000000 in
set_option maxRecDepth 100000 in
theorem wfX8_divide32_b58 {h0 h : pm_H} (K0 : pw_F WX8_divide32 h0 h) {x1 : Int32} {x3 : Int32} {s0 : Int64}  {r : (Int64 × pm_H)} (hf : fX8_divide32_b58 h x1 x3 s0 = some r) : pw_F WX8_divide32 h0 r.2 := by
  unfold fX8_divide32_b58 at hf
  by_cases c9 : x1 = 6
  · have hf := pm_it hf c9
    exact wfX8_divide32_b72 K0  hf
  · have hf := pm_ie hf c9
    by_cases c10 : x1 = 8
    · have hf := pm_it hf c10
      exact wfX8_divide32_b72 K0  hf
    · have hf := pm_ie hf c10
      obtain ⟨y11, e12, hf⟩ := pm_lt hf
      by_cases c13 : 7 < x1
      · have hf := pm_it hf c13
        obtain ⟨u14, hf⟩ := pm_if hf
        cases hf
        exact K0
      · have hf := pm_ie hf c13
        obtain ⟨u15, hf⟩ := pm_if hf
        cases hf
        exact K0
set_option maxHeartbeats 4000000 in
set_option maxRecDepth 100000 in
theorem wfX8_divide32_b47 {h0 h : pm_H} (K0 : pw_F WX8_divide32 h0 h) {x1 : Int32} {x2 : Int32} {x3 : Int32}  {r : (Int64 × pm_H)} (hf : fX8_divide32_b47 h x1 x2 x3 = some r) : pw_F WX8_divide32 h0 r.2 := by
  unfold fX8_divide32_b47 at hf
  exact wfX8_divide32_b58 K0  hf
set_option maxHeartbeats 4000000 in
set_option maxRecDepth 100000 in
theorem wfX8_divide32_b35 {h0 h : pm_H} (K0 : pw_F WX8_divide32 h0 h) {x1 : Int32} {x2 : Int32} {x3 : Int32}  {r : (Int64 × pm_H)} (hf : fX8_divide32_b35 h x1 x2 x3 = some r) : pw_F WX8_divide32 h0 r.2 := by
  unfold fX8_divide32_b35 at hf
  by_cases c7 : x1 = 6
  · have hf := pm_it hf c7
    exact wfX8_divide32_b47 K0  hf
  · have hf := pm_ie hf c7
    by_cases c8 : x1 = 8
    · have hf := pm_it hf c8
      exact wfX8_divide32_b47 K0  hf
    · have hf := pm_ie hf c8
      exact wfX8_divide32_b58 K0  hf
set_option maxHeartbeats 4000000 in
set_option maxRecDepth 100000 in
theorem wfX8_divide32 {h0 h : pm_H} (K0 : pw_F WX8_divide32 h0 h) {a0 : Nat} {p1 : Int32} {p2 : Int32} {p3 : Int32}  {r : (Int64 × pm_H)} (hf : fX8_divide32 h a0 p1 p2 p3 = some r) : pw_F WX8_divide32 h0 r.2 := by
  unfold fX8_divide32 at hf
  by_cases c1 : p3 = 0
  · have hf := pm_it hf c1
    obtain ⟨k2, hf⟩ := pm_if hf
    cases hf
    exact (pw_sI K0 rfl k2 (by decide))
  · have hf := pm_ie hf c1
    by_cases c3 : p1 = 6
    · have hf := pm_it hf c3
      by_cases c4 : p2 = (-2147483648)
      · have hf := pm_it hf c4
        by_cases c5 : p3 = (-1)
        · have hf := pm_it hf c5
          obtain ⟨k6, hf⟩ := pm_if hf
          cases hf
          exact (pw_sI K0 rfl k6 (by decide))
        · have hf := pm_ie hf c5
          exact wfX8_divide32_b35 K0  hf
      · have hf := pm_ie hf c4
        exact wfX8_divide32_b35 K0  hf
    · have hf := pm_ie hf c3
      exact wfX8_divide32_b35 K0  hf
abbrev WX8_whole32 : List Nat := [1024]
set_option maxHeartbeats 4000000 in
set_option maxRecDepth 100000 in
theorem wfX8_whole32_b20 {h0 h : pm_H} (K0 : pw_F WX8_whole32 h0 h) {x1 : Int32} {x2 : Int32} {x3 : Int32}  {r : (Int64 × pm_H)} (hf : fX8_whole32_b20 h x1 x2 x3 = some r) : pw_F WX8_whole32 h0 r.2 := by
  unfold fX8_whole32_b20 at hf
  by_cases c7 : x1 = 0
  · have hf := pm_it hf c7
    obtain ⟨v8, e9, hf⟩ := pm_lt hf
    cases hf
    exact K0
  have hf := pm_ie hf c7
  by_cases c10 : x1 = 1
  · have hf := pm_it hf c10
    obtain ⟨v11, e12, hf⟩ := pm_lt hf
    cases hf
    exact K0
  have hf := pm_ie hf c10
  by_cases c13 : x1 = 2
  · have hf := pm_it hf c13
    obtain ⟨v14, e15, hf⟩ := pm_lt hf
    cases hf
    exact K0
  have hf := pm_ie hf c13
  by_cases c16 : x1 = 3
  · have hf := pm_it hf c16
    cases hf
    exact K0
  have hf := pm_ie hf c16
  by_cases c17 : x1 = 4
  · have hf := pm_it hf c17
    cases hf
    exact K0
  have hf := pm_ie hf c17
  by_cases c18 : x1 = 5
  · have hf := pm_it hf c18
    cases hf
    exact K0
  have hf := pm_ie hf c18
  by_cases c19 : x1 = 6
  · have hf := pm_it hf c19
    cases hf
    exact K0
  have hf := pm_ie hf c19
  by_cases c20 : x1 = 7
  · have hf := pm_it hf c20
    cases hf
    exact K0
  have hf := pm_ie hf c20
  by_cases c21 : x1 = 8
  · have hf := pm_it hf c21
    cases hf
    exact K0
  have hf := pm_ie hf c21
  by_cases c22 : x1 = 9
  · have hf := pm_it hf c22
    cases hf
    exact K0
  have hf := pm_ie hf c22
  by_cases c23 : x1 = 10
  · have hf := pm_it hf c23
    cases hf
    exact K0
  have hf := pm_ie hf c23
  by_cases c24 : x1 = 11
  · have hf := pm_it hf c24
    cases hf
    exact K0
  have hf := pm_ie hf c24
  by_cases c25 : x1 = 12
  · have hf := pm_it hf c25
    cases hf
    exact K0
  have hf := pm_ie hf c25
  by_cases c26 : x1 = 13
  · have hf := pm_it hf c26
    cases hf
    exact K0
  have hf := pm_ie hf c26
  by_cases c27 : x1 = 14
  · have hf := pm_it hf c27
    cases hf
    exact K0
  have hf := pm_ie hf c27
  by_cases c28 : x1 = 15
  · have hf := pm_it hf c28
    cases hf
    exact K0
  have hf := pm_ie hf c28
  by_cases c29 : x1 = 16
  · have hf := pm_it hf c29
    cases hf
    exact K0
  have hf := pm_ie hf c29
  cases hf
  exact K0
set_option maxHeartbeats 4000000 in
set_option maxRecDepth 100000 in
theorem wfX8_whole32 {h0 h : pm_H} (K0 : pw_F WX8_whole32 h0 h) {a0 : Nat} {p1 : Int32} {p2 : Int32} {p3 : Int32}  {r : (Int64 × pm_H)} (hf : fX8_whole32 h a0 p1 p2 p3 = some r) : pw_F WX8_whole32 h0 r.2 := by
  unfold fX8_whole32 at hf
  by_cases c1 : p1 < 6
  · have hf := pm_it hf c1
    exact wfX8_whole32_b20 K0  hf
  · have hf := pm_ie hf c1
    by_cases c2 : 9 < p1
    · have hf := pm_it hf c2
      exact wfX8_whole32_b20 K0  hf
    · have hf := pm_ie hf c2
      obtain ⟨k3, hf⟩ := pm_if hf
      obtain ⟨v4, e5, hf⟩ := pm_bd hf
      have K6 := pw_t (by decide) K0 (wfX8_divide32 (pw_rf _) e5)
      cases hf
      exact K6
abbrev WX9_exceedLimit : List Nat := [1157]
set_option maxHeartbeats 4000000 in
set_option maxRecDepth 100000 in
theorem wfX9_exceedLimit {h0 h : pm_H} (K0 : pw_F WX9_exceedLimit h0 h) {a0 : Nat}  {r : pm_H} (hf : fX9_exceedLimit h a0 = some r) : pw_F WX9_exceedLimit h0 r := by
  unfold fX9_exceedLimit at hf
  obtain ⟨k1, hf⟩ := pm_if hf
  by_cases c2 : 0 ≤ (pm_I h a0 5)
  · have hf := pm_it hf c2
    cases hf
    exact K0
  · have hf := pm_ie hf c2
    obtain ⟨y3, e4, hf⟩ := pm_lt hf
    cases hf
    exact (pw_sI K0 rfl k1 (by decide))
abbrev WX9_fail : List Nat := [1155, 1156]
set_option maxHeartbeats 4000000 in
set_option maxRecDepth 100000 in
theorem wfX9_fail {h0 h : pm_H} (K0 : pw_F WX9_fail h0 h) {a0 : Nat} {p1 : Int32} {p2 : Int32}  {r : pm_H} (hf : fX9_fail h a0 p1 p2 = some r) : pw_F WX9_fail h0 r := by
  unfold fX9_fail at hf
  obtain ⟨k1, hf⟩ := pm_if hf
  by_cases c2 : (pm_I h a0 3) = 0
  · have hf := pm_it hf c2
    cases hf
    exact (pw_sI (pw_sI K0 rfl k1 (by decide)) (pkI rfl) k1 (by decide))
  · have hf := pm_ie hf c2
    cases hf
    exact K0
abbrev WX9_next : List Nat := [1153, 1155, 1156]
set_option maxHeartbeats 4000000 in
set_option maxRecDepth 100000 in
theorem wfX9_next {h0 h : pm_H} (K0 : pw_F WX9_next h0 h) {a0 : Nat}  {r : (Int32 × pm_H)} (hf : fX9_next h a0 = some r) : pw_F WX9_next h0 r.2 := by
  unfold fX9_next at hf
  obtain ⟨k1, hf⟩ := pm_if hf
  by_cases c2 : (pm_I h a0 3) = 0
  · have hf := pm_it hf c2
    by_cases c3 : (pm_I h a0 1) < 0
    · have hf := pm_it hf c3
      obtain ⟨y4, e5, hf⟩ := pm_lt hf
      cases hf
      exact (pw_sI (pw_sI K0 rfl k1 (by decide)) (pkI rfl) k1 (by decide))
    · have hf := pm_ie hf c3
      by_cases c6 : (pm_I h a0 2) ≤ (pm_I h a0 1)
      · have hf := pm_it hf c6
        obtain ⟨y7, e8, hf⟩ := pm_lt hf
        cases hf
        exact (pw_sI (pw_sI K0 rfl k1 (by decide)) (pkI rfl) k1 (by decide))
      · have hf := pm_ie hf c6
        obtain ⟨v9, e10, hf⟩ := pm_bd hf
        obtain ⟨k11, hf⟩ := pm_if hf
        obtain ⟨v12, e13, hf⟩ := pm_bd hf
        obtain ⟨k14, hf⟩ := pm_if hf
        by_cases c15 : (pm_I h a0 1) < (Int32.ofNat (pm_ln h v12))
        · have hf := pm_it hf c15
          obtain ⟨y16, e17, hf⟩ := pm_lt hf
          obtain ⟨y18, e19, hf⟩ := pm_lt hf
          obtain ⟨u20, hf⟩ := pm_if hf
          cases hf
          exact (pw_sI K0 rfl k1 (by decide))
        · have hf := pm_ie hf c15
          obtain ⟨y21, e22, hf⟩ := pm_lt hf
          cases hf
          exact (pw_sI (pw_sI K0 rfl k1 (by decide)) (pkI rfl) k1 (by decide))
  · have hf := pm_ie hf c2
    cases hf
    exact K0
abbrev WX9_nextUpTo : List Nat := [1153, 1155, 1156]
set_option maxHeartbeats 4000000 in
set_option maxRecDepth 100000 in
theorem wfX9_nextUpTo {h0 h : pm_H} (K0 : pw_F WX9_nextUpTo h0 h) {a0 : Nat} {p1 : Int32}  {r : (Int32 × pm_H)} (hf : fX9_nextUpTo h a0 p1 = some r) : pw_F WX9_nextUpTo h0 r.2 := by
  unfold fX9_nextUpTo at hf
  obtain ⟨k1, hf⟩ := pm_if hf
  obtain ⟨v2, e3, hf⟩ := pm_bd hf
  have K4 := pw_t (by decide) K0 (wfX9_next (pw_rf _) e3)
  by_cases c5 : v2.1 ≤ p1
  · have hf := pm_it hf c5
    cases hf
    exact K4
  · have hf := pm_ie hf c5
    obtain ⟨k6, hf⟩ := pm_if hf
    obtain ⟨v7, e8, hf⟩ := pm_bd hf
    have K9 := pw_t (by decide) K4 (wfX9_fail (pw_rf _) e8)
    cases hf
    exact K9
abbrev WX9_open : List Nat := [1152, 1153, 1154, 1155, 1156, 1168]
set_option maxHeartbeats 4000000 in
set_option maxRecDepth 100000 in
theorem wfX9_open {h0 h : pm_H} (K0 : pw_F WX9_open h0 h) {a0 : Nat} {p1 : Nat} {p2 : Int32}  {r : pm_H} (hf : fX9_open h a0 p1 p2 = some r) : pw_F WX9_open h0 r := by
  unfold fX9_open at hf
  obtain ⟨k1, hf⟩ := pm_if hf
  obtain ⟨k2, hf⟩ := pm_if hf
  have k2b := (congrFun (pkI (pkR rfl)) p1).symm.trans k2
  obtain ⟨v3, e4, hf⟩ := pm_bd hf
  obtain ⟨k5, hf⟩ := pm_if hf
  have k5b := (congrFun (pkI (pkR rfl)) v3).symm.trans k5
  obtain ⟨y6, e7, hf⟩ := pm_lt hf
  cases hf
  exact (pw_sI (pw_sI (pw_sI (pw_sI (pw_sI (pw_sR K0 rfl k1 (by decide)) (pkR rfl) k1 (by decide)) (pkI (pkR rfl)) k1 (by decide)) (pkI (pkI (pkR rfl))) k1 (by decide)) (pkI (pkI (pkI (pkR rfl)))) k1 (by decide)) (pkI (pkI (pkI (pkI (pkR rfl))))) k1 (by decide))
abbrev WX9_referenceType : List Nat := [1153, 1155, 1156]
set_option maxHeartbeats 4000000 in
set_option maxRecDepth 100000 in
theorem wfX9_referenceType {h0 h : pm_H} (K0 : pw_F WX9_referenceType h0 h) {a0 : Nat}  {r : (Int32 × pm_H)} (hf : fX9_referenceType h a0 = some r) : pw_F WX9_referenceType h0 r.2 := by
  unfold fX9_referenceType at hf
  obtain ⟨k1, hf⟩ := pm_if hf
  obtain ⟨v2, e3, hf⟩ := pm_bd hf
  have K4 := pw_t (by decide) K0 (wfX9_next (pw_rf _) e3)
  obtain ⟨v5, e6, hf⟩ := pm_lt hf
  by_cases c7 : v5 = 0
  · have hf := pm_it hf c7
    obtain ⟨k8, hf⟩ := pm_if hf
    obtain ⟨v9, e10, hf⟩ := pm_bd hf
    have K11 := pw_t (by decide) K4 (wfX9_fail (pw_rf _) e10)
    cases hf
    exact K11
  · have hf := pm_ie hf c7
    cases hf
    exact K4
abbrev WX9_skip : List Nat := [1153, 1155, 1156]
set_option maxHeartbeats 4000000 in
set_option maxRecDepth 100000 in
theorem wfX9_skip {h0 h : pm_H} (K0 : pw_F WX9_skip h0 h) {a0 : Nat} {p1 : Int64}  {r : pm_H} (hf : fX9_skip h a0 p1 = some r) : pw_F WX9_skip h0 r := by
  unfold fX9_skip at hf
  obtain ⟨k1, hf⟩ := pm_if hf
  by_cases c2 : (pm_I h a0 3) = 0
  · have hf := pm_it hf c2
    by_cases c3 : p1 ≤ (((pm_I h a0 2) - (pm_I h a0 1)).toInt64)
    · have hf := pm_it hf c3
      by_cases c4 : (pm_I h a0 3) = 0
      · have hf := pm_it hf c4
        obtain ⟨y5, e6, hf⟩ := pm_lt hf
        cases hf
        exact (pw_sI K0 rfl k1 (by decide))
      · have hf := pm_ie hf c4
        cases hf
        exact K0
    · have hf := pm_ie hf c3
      obtain ⟨v7, e8, hf⟩ := pm_bd hf
      have K9 := pw_t (by decide) K0 (wfX9_fail (pw_rf _) e8)
      obtain ⟨k10, hf⟩ := pm_if hf
      by_cases c11 : (pm_I v7 a0 3) = 0
      · have hf := pm_it hf c11
        obtain ⟨y12, e13, hf⟩ := pm_lt hf
        cases hf
        exact (pw_sI K9 rfl k10 (by decide))
      · have hf := pm_ie hf c11
        cases hf
        exact K9
  · have hf := pm_ie hf c2
    by_cases c14 : (pm_I h a0 3) = 0
    · have hf := pm_it hf c14
      obtain ⟨y15, e16, hf⟩ := pm_lt hf
      cases hf
      exact (pw_sI K0 rfl k1 (by decide))
    · have hf := pm_ie hf c14
      cases hf
      exact K0
abbrev WX9_valueType : List Nat := [1153, 1155, 1156]
set_option maxHeartbeats 4000000 in
set_option maxRecDepth 100000 in
theorem wfX9_valueType {h0 h : pm_H} (K0 : pw_F WX9_valueType h0 h) {a0 : Nat}  {r : (Int32 × pm_H)} (hf : fX9_valueType h a0 = some r) : pw_F WX9_valueType h0 r.2 := by
  unfold fX9_valueType at hf
  obtain ⟨k1, hf⟩ := pm_if hf
  obtain ⟨v2, e3, hf⟩ := pm_bd hf
  have K4 := pw_t (by decide) K0 (wfX9_next (pw_rf _) e3)
  obtain ⟨v5, e6, hf⟩ := pm_lt hf
  by_cases c7 : v5 = 0
  · have hf := pm_it hf c7
    obtain ⟨k8, hf⟩ := pm_if hf
    obtain ⟨v9, e10, hf⟩ := pm_bd hf
    have K11 := pw_t (by decide) K4 (wfX9_fail (pw_rf _) e10)
    cases hf
    exact K11
  · have hf := pm_ie hf c7
    cases hf
    exact K4
abbrev WX10_countFrame : List Nat := [1282, 4096, 4352]
set_option maxHeartbeats 4000000 in
set_option maxRecDepth 100000 in
theorem wfX10_countFrame {h0 h : pm_H} (K0 : pw_F WX10_countFrame h0 h) {a0 : Nat} {p1 : Int32} {p2 : Int32}  {r : (Int32 × pm_H)} (hf : fX10_countFrame h a0 p1 p2 = some r) : pw_F WX10_countFrame h0 r.2 := by
  unfold fX10_countFrame at hf
  by_cases c1 : p1 < 0
  · have hf := pm_it hf c1
    cases hf
    exact K0
  · have hf := pm_ie hf c1
    by_cases c2 : p1 < 512
    · have hf := pm_it hf c2
      obtain ⟨k3, hf⟩ := pm_if hf
      obtain ⟨v4, e5, hf⟩ := pm_bd hf
      obtain ⟨k6, hf⟩ := pm_if hf
      obtain ⟨u7, hf⟩ := pm_if hf
      obtain ⟨y8, e9, hf⟩ := pm_lt hf
      obtain ⟨u10, hf⟩ := pm_if hf
      obtain ⟨v11, e12, hf⟩ := pm_bd hf
      obtain ⟨k13, hf⟩ := pm_if hf
      have k13b := (congrFun (pkI rfl) v11).symm.trans k13
      obtain ⟨u14, hf⟩ := pm_if hf
      by_cases c15 : (pm_I (pm_setI h v4 p1.toNatClampNeg y8) v11 p1.toNatClampNeg) = 0
      · have hf := pm_it hf c15
        by_cases c16 : p2 ≤ 0
        · have hf := pm_it hf c16
          obtain ⟨u17, hf⟩ := pm_if hf
          obtain ⟨u18, hf⟩ := pm_if hf
          cases hf
          exact (pw_aI K0 rfl k6 (by decide) (by decide))
        · have hf := pm_ie hf c16
          obtain ⟨u19, hf⟩ := pm_if hf
          by_cases c20 : (pm_I (pm_setI h v4 p1.toNatClampNeg y8) v4 p1.toNatClampNeg) < p2
          · have hf := pm_it hf c20
            obtain ⟨u21, hf⟩ := pm_if hf
            obtain ⟨u22, hf⟩ := pm_if hf
            cases hf
            exact (pw_aI K0 rfl k6 (by decide) (by decide))
          · have hf := pm_ie hf c20
            obtain ⟨u23, hf⟩ := pm_if hf
            obtain ⟨y24, e25, hf⟩ := pm_lt hf
            obtain ⟨u26, hf⟩ := pm_if hf
            obtain ⟨u27, hf⟩ := pm_if hf
            cases hf
            exact (pw_sI (pw_aI (pw_aI K0 rfl k6 (by decide) (by decide)) (pkI rfl) k13b (by decide) (by decide)) (pkI (pkI rfl)) k3 (by decide))
      · have hf := pm_ie hf c15
        obtain ⟨u28, hf⟩ := pm_if hf
        obtain ⟨u29, hf⟩ := pm_if hf
        cases hf
        exact (pw_aI K0 rfl k6 (by decide) (by decide))
    · have hf := pm_ie hf c2
      cases hf
      exact K0
abbrev WX11_setEntry : List Nat := [4352]
set_option maxHeartbeats 4000000 in
set_option maxRecDepth 100000 in
theorem wfX11_setEntry_b36 {h0 h : pm_H} (K0 : pw_F WX11_setEntry h0 h) {x0 : Nat} {x1 : Int32} {x2 : Int64} {x4 : Int32}  {r : pm_H} (hf : fX11_setEntry_b36 h x0 x1 x2 x4 = some r) : pw_F WX11_setEntry h0 r := by
  unfold fX11_setEntry_b36 at hf
  by_cases c19 : (0 : Int32) = (0 : Int32)
  · have hf := pm_it hf c19
    cases hf
    exact K0
  · have hf := pm_ie hf c19
    obtain ⟨k20, hf⟩ := pm_if hf
    obtain ⟨v21, e22, hf⟩ := pm_bd hf
    obtain ⟨k23, hf⟩ := pm_if hf
    obtain ⟨u24, hf⟩ := pm_if hf
    obtain ⟨v25, e26, hf⟩ := pm_bd hf
    obtain ⟨k27, hf⟩ := pm_if hf
    obtain ⟨u28, hf⟩ := pm_if hf
    cases hf
    exact (pw_aI K0 rfl k27 (by decide) (by decide))
set_option maxHeartbeats 4000000 in
set_option maxRecDepth 100000 in
theorem wfX11_setEntry {h0 h : pm_H} (K0 : pw_F WX11_setEntry h0 h) {a0 : Nat} {p1 : Int32} {p2 : Int64} {p3 : Int32}  {r : pm_H} (hf : fX11_setEntry h a0 p1 p2 p3 = some r) : pw_F WX11_setEntry h0 r := by
  unfold fX11_setEntry at hf
  by_cases c1 : p1 < 0
  · have hf := pm_it hf c1
    exact wfX11_setEntry_b36 K0  hf
  · have hf := pm_ie hf c1
    obtain ⟨k2, hf⟩ := pm_if hf
    obtain ⟨v3, e4, hf⟩ := pm_bd hf
    obtain ⟨k5, hf⟩ := pm_if hf
    by_cases c6 : (Int32.ofNat (pm_ln h v3)) ≤ p1
    · have hf := pm_it hf c6
      exact wfX11_setEntry_b36 K0  hf
    · have hf := pm_ie hf c6
      by_cases c7 : p2 < 0
      · have hf := pm_it hf c7
        exact wfX11_setEntry_b36 K0  hf
      · have hf := pm_ie hf c7
        obtain ⟨u8, hf⟩ := pm_if hf
        obtain ⟨v9, e10, hf⟩ := pm_bd hf
        obtain ⟨k11, hf⟩ := pm_if hf
        by_cases c12 : ((Int32.ofNat (pm_ln h v9)).toInt64) ≤ p2
        · have hf := pm_it hf c12
          exact wfX11_setEntry_b36 K0  hf
        · have hf := pm_ie hf c12
          by_cases c13 : (1 : Int32) = (0 : Int32)
          · have hf := pm_it hf c13
            cases hf
            exact K0
          · have hf := pm_ie hf c13
            obtain ⟨u14, hf⟩ := pm_if hf
            obtain ⟨v15, e16, hf⟩ := pm_bd hf
            obtain ⟨k17, hf⟩ := pm_if hf
            obtain ⟨u18, hf⟩ := pm_if hf
            cases hf
            exact (pw_aI K0 rfl k17 (by decide) (by decide))
abbrev WX12_argument : List Nat := [1551, 4480]
set_option maxHeartbeats 4000000 in
set_option maxRecDepth 100000 in
theorem wfX12_argument {h0 h : pm_H} (K0 : pw_F WX12_argument h0 h) {a0 : Nat} {p1 : Int64}  {r : (Int32 × pm_H)} (hf : fX12_argument h a0 p1 = some r) : pw_F WX12_argument h0 r.2 := by
  unfold fX12_argument at hf
  obtain ⟨k1, hf⟩ := pm_if hf
  obtain ⟨v2, e3, hf⟩ := pm_bd hf
  obtain ⟨k4, hf⟩ := pm_if hf
  by_cases c5 : (pm_I h a0 15) < (Int32.ofNat (pm_ln h v2))
  · have hf := pm_it hf c5
    obtain ⟨u6, hf⟩ := pm_if hf
    obtain ⟨y7, e8, hf⟩ := pm_lt hf
    cases hf
    exact (pw_sI (pw_aL K0 rfl k4 (by decide) (by decide)) (pkL rfl) k1 (by decide))
  · have hf := pm_ie hf c5
    cases hf
    exact K0
abbrev WX12_give : List Nat := [640, 643, 653, 654]
set_option maxHeartbeats 4000000 in
set_option maxRecDepth 100000 in
theorem wfX12_give {h0 h : pm_H} (K0 : pw_F WX12_give h0 h) {a0 : Nat}  {r : (Int32 × pm_H)} (hf : fX12_give h a0 = some r) : pw_F WX12_give h0 r.2 := by
  unfold fX12_give at hf
  obtain ⟨k1, hf⟩ := pm_if hf
  obtain ⟨v2, e3, hf⟩ := pm_bd hf
  obtain ⟨k4, hf⟩ := pm_if hf
  obtain ⟨v5, e6, hf⟩ := pm_bd hf
  by_cases c7 : v5 = 0
  · have hf := pm_it hf c7
    cases hf
    exact K0
  · have hf := pm_ie hf c7
    obtain ⟨v8, e9, hf⟩ := pm_bd hf
    have K10 := pw_t (by decide) K0 (wfX5_stop (pw_rf _) e9)
    cases hf
    exact K10
abbrev WX12_setItem : List Nat := [4352]
set_option maxHeartbeats 4000000 in
set_option maxRecDepth 100000 in
theorem wfX12_setItem {h0 h : pm_H} (K0 : pw_F WX12_setItem h0 h) {p1 : Nat} {p2 : Int32} {p3 : Int32}  {r : pm_H} (hf : fX12_setItem h p1 p2 p3 = some r) : pw_F WX12_setItem h0 r := by
  unfold fX12_setItem at hf
  by_cases c1 : p2 < 0
  · have hf := pm_it hf c1
    cases hf
    exact K0
  · have hf := pm_ie hf c1
    obtain ⟨k2, hf⟩ := pm_if hf
    by_cases c3 : (Int32.ofNat (pm_ln h p1)) ≤ p2
    · have hf := pm_it hf c3
      cases hf
      exact K0
    · have hf := pm_ie hf c3
      obtain ⟨u4, hf⟩ := pm_if hf
      cases hf
      exact (pw_aI K0 rfl k2 (by decide) (by decide))
abbrev WX12_setItem_ : List Nat := [4480]
set_option maxHeartbeats 4000000 in
set_option maxRecDepth 100000 in
theorem wfX12_setItem_ {h0 h : pm_H} (K0 : pw_F WX12_setItem_ h0 h) {p1 : Nat} {p2 : Int32} {p3 : Int64}  {r : pm_H} (hf : fX12_setItem_ h p1 p2 p3 = some r) : pw_F WX12_setItem_ h0 r := by
  unfold fX12_setItem_ at hf
  by_cases c1 : p2 < 0
  · have hf := pm_it hf c1
    cases hf
    exact K0
  · have hf := pm_ie hf c1
    obtain ⟨k2, hf⟩ := pm_if hf
    by_cases c3 : (Int32.ofNat (pm_ln h p1)) ≤ p2
    · have hf := pm_it hf c3
      cases hf
      exact K0
    · have hf := pm_ie hf c3
      obtain ⟨u4, hf⟩ := pm_if hf
      cases hf
      exact (pw_aL K0 rfl k2 (by decide) (by decide))
abbrev WX12_tier : List Nat := [645]
set_option maxHeartbeats 4000000 in
set_option maxRecDepth 100000 in
theorem wfX12_tier {h0 h : pm_H} (K0 : pw_F WX12_tier h0 h) {a0 : Nat} {p1 : Int32}  {r : (Int32 × pm_H)} (hf : fX12_tier h a0 p1 = some r) : pw_F WX12_tier h0 r.2 := by
  unfold fX12_tier at hf
  by_cases c1 : 0 ≤ p1
  · have hf := pm_it hf c1
    obtain ⟨k2, hf⟩ := pm_if hf
    obtain ⟨v3, e4, hf⟩ := pm_bd hf
    obtain ⟨k5, hf⟩ := pm_if hf
    obtain ⟨y6, e7, hf⟩ := pm_lt hf
    cases hf
    exact (pw_sI K0 rfl k5 (by decide))
  · have hf := pm_ie hf c1
    cases hf
    exact K0
abbrev WX12_write : List Nat := [4224]
set_option maxHeartbeats 4000000 in
set_option maxRecDepth 100000 in
theorem wlX12_write {h0 : pm_H} {r : pm_H} : ∀ n : Nat, (∀ (x0 : Nat) (x1 : Int32) (x2 : Int32) (x3 : Int32) (h : pm_H), pw_F WX12_write h0 h → pm_iter sX12_write n (x0, x1, x2, x3, h) = some r → pw_F WX12_write h0 r) := by
  intro n
  induction n with
  | zero => exact fun _ _ _ _ _ _ hf => (by cases hf)
  | succ n ih =>
    refine fun x0 x1 x2 x3 h K0 hf => ?_
    obtain ⟨y, hf, hi⟩ := pm_iter_s hf
    have hf : tX12_write_18 x0 x1 x2 x3 h = some y := hf
    unfold tX12_write_18 at hf
    by_cases c7 : 4 ≤ x3
    · have hf := pm_it hf c7
      cases hf
      cases hi
      exact K0
    · have hf := pm_ie hf c7
      obtain ⟨k8, hf⟩ := pm_if hf
      obtain ⟨v9, e10, hf⟩ := pm_bd hf
      obtain ⟨y11, e12, hf⟩ := pm_lt hf
      obtain ⟨k13, hf⟩ := pm_if hf
      obtain ⟨u14, hf⟩ := pm_if hf
      obtain ⟨y15, e16, hf⟩ := pm_lt hf
      cases hf
      exact ih x0 x1 x2 y15 (pm_setI h v9 ((x2 + x3).toNatClampNeg) (vp_nar .byte y11)) (pw_aI K0 rfl k13 (by decide) (by decide))  hi
set_option maxHeartbeats 4000000 in
set_option maxRecDepth 100000 in
theorem wfX12_write {h0 h : pm_H} (K0 : pw_F WX12_write h0 h) {a0 : Nat} {p1 : Int32} {p2 : Int32}  {r : pm_H} (hf : fX12_write h a0 p1 p2 = some r) : pw_F WX12_write h0 r := by
  unfold fX12_write at hf
  by_cases c1 : p2 < 0
  · have hf := pm_it hf c1
    cases hf
    exact K0
  · have hf := pm_ie hf c1
    obtain ⟨k2, hf⟩ := pm_if hf
    obtain ⟨v3, e4, hf⟩ := pm_bd hf
    obtain ⟨k5, hf⟩ := pm_if hf
    by_cases c6 : p2 ≤ ((Int32.ofNat (pm_ln h v3)) - 4)
    · have hf := pm_it hf c6
      obtain ⟨n, hn⟩ := pm_lim_iter hf
      exact (wlX12_write n) a0 p1 p2 0 h K0  hn
    · have hf := pm_ie hf c6
      cases hf
      exact K0
abbrev WX15_read : List Nat := [1920, 1921, 1922, 1923]
set_option maxHeartbeats 4000000 in
set_option maxRecDepth 100000 in
theorem wfX15_read_b141 {h0 h : pm_H} (K0 : pw_F WX15_read h0 h) {x0 : Nat} {x1 : Int32} {x8 : Int32} {s0 : Int64} {s1 : Nat}  {r : pm_H} (hf : fX15_read_b141 h x0 x1 x8 s0 s1 = some r) : pw_F WX15_read h0 r := by
  unfold fX15_read_b141 at hf
  obtain ⟨k17, hf⟩ := pm_if hf
  by_cases c18 : x8 = 0
  · have hf := pm_it hf c18
    by_cases c19 : x1 = 2
    · have hf := pm_it hf c19
      obtain ⟨y20, e21, hf⟩ := pm_lt hf
      obtain ⟨k22, hf⟩ := pm_if hf
      have k22b := (congrFun (pkL rfl) x0).symm.trans k22
      cases hf
      exact (pw_sI (pw_sL K0 rfl k17 (by decide)) (pkL rfl) k22b (by decide))
    · have hf := pm_ie hf c19
      obtain ⟨y23, e24, hf⟩ := pm_lt hf
      obtain ⟨k25, hf⟩ := pm_if hf
      have k25b := (congrFun (pkL rfl) x0).symm.trans k25
      cases hf
      exact (pw_sI (pw_sL K0 rfl k17 (by decide)) (pkL rfl) k25b (by decide))
  · have hf := pm_ie hf c18
    by_cases c26 : x1 = 2
    · have hf := pm_it hf c26
      obtain ⟨y27, e28, hf⟩ := pm_lt hf
      obtain ⟨k29, hf⟩ := pm_if hf
      have k29b := (congrFun (pkL rfl) x0).symm.trans k29
      cases hf
      exact (pw_sI (pw_sL K0 rfl k17 (by decide)) (pkL rfl) k29b (by decide))
    · have hf := pm_ie hf c26
      obtain ⟨y30, e31, hf⟩ := pm_lt hf
      obtain ⟨k32, hf⟩ := pm_if hf
      have k32b := (congrFun (pkL rfl) x0).symm.trans k32
      cases hf
      exact (pw_sI (pw_sL K0 rfl k17 (by decide)) (pkL rfl) k32b (by decide))
set_option maxHeartbeats 4000000 in
set_option maxRecDepth 100000 in
theorem wfX15_read_b120 {h0 h : pm_H} (K0 : pw_F WX15_read h0 h) {x0 : Nat} {x1 : Int32} {x4 : Int32} {x6 : Int64} {x8 : Int32} {s0 : Int32} {s1 : Nat}  {r : pm_H} (hf : fX15_read_b120 h x0 x1 x4 x6 x8 s0 s1 = some r) : pw_F WX15_read h0 r := by
  unfold fX15_read_b120 at hf
  obtain ⟨k15, hf⟩ := pm_if hf
  by_cases c16 : x8 = 0
  · have hf := pm_it hf c16
    exact wfX15_read_b141 (pw_sI K0 rfl k15 (by decide))  hf
  · have hf := pm_ie hf c16
    exact wfX15_read_b141 (pw_sI K0 rfl k15 (by decide))  hf
set_option maxHeartbeats 4000000 in
set_option maxRecDepth 100000 in
theorem wfX15_read_b77 {h0 h : pm_H} (K0 : pw_F WX15_read h0 h) {x0 : Nat} {x1 : Int32} {x4 : Int32} {x5 : Int32} {x6 : Int64} {x8 : Int32} {s0 : Int32} {s1 : Nat}  {r : pm_H} (hf : fX15_read_b77 h x0 x1 x4 x5 x6 x8 s0 s1 = some r) : pw_F WX15_read h0 r := by
  unfold fX15_read_b77 at hf
  obtain ⟨k9, hf⟩ := pm_if hf
  obtain ⟨u10, hf⟩ := pm_if hf
  by_cases c11 : x8 = x5
  · have hf := pm_it hf c11
    by_cases c12 : x6 = 0
    · have hf := pm_it hf c12
      exact wfX15_read_b120 (pw_sI K0 rfl k9 (by decide))  hf
    · have hf := pm_ie hf c12
      exact wfX15_read_b120 (pw_sI K0 rfl k9 (by decide))  hf
  · have hf := pm_ie hf c11
    by_cases c13 : x8 = 0
    · have hf := pm_it hf c13
      by_cases c14 : x6 = 0
      · have hf := pm_it hf c14
        exact wfX15_read_b120 (pw_sI K0 rfl k9 (by decide))  hf
      · have hf := pm_ie hf c14
        exact wfX15_read_b120 (pw_sI K0 rfl k9 (by decide))  hf
    · have hf := pm_ie hf c13
      exact wfX15_read_b120 (pw_sI K0 rfl k9 (by decide))  hf
set_option maxHeartbeats 4000000 in
set_option maxRecDepth 100000 in
theorem wfX15_read_b64 {h0 h : pm_H} (K0 : pw_F WX15_read h0 h) {x0 : Nat} {x1 : Int32} {x4 : Int32} {x5 : Int32} {x6 : Int64} {x8 : Int32} {s0 : Int32} {s1 : Int64} {s2 : Nat}  {r : pm_H} (hf : fX15_read_b64 h x0 x1 x4 x5 x6 x8 s0 s1 s2 = some r) : pw_F WX15_read h0 r := by
  unfold fX15_read_b64 at hf
  by_cases c8 : ((s1 >>> (s0.toInt64 &&& 63)) &&& 1) = 1
  · have hf := pm_it hf c8
    exact wfX15_read_b77 K0  hf
  · have hf := pm_ie hf c8
    exact wfX15_read_b77 K0  hf
set_option maxHeartbeats 4000000 in
set_option maxRecDepth 100000 in
theorem wfX15_read_b28 {h0 h : pm_H} (K0 : pw_F WX15_read h0 h) {x0 : Nat} {x1 : Int32} {x2 : Int64} {x4 : Int32} {s0 : Int32}  {r : pm_H} (hf : fX15_read_b28 h x0 x1 x2 x4 s0 = some r) : pw_F WX15_read h0 r := by
  unfold fX15_read_b28 at hf
  obtain ⟨y3, e4, hf⟩ := pm_lt hf
  obtain ⟨y5, e6, hf⟩ := pm_lt hf
  by_cases c7 : x1 = 2
  · have hf := pm_it hf c7
    exact wfX15_read_b64 K0  hf
  · have hf := pm_ie hf c7
    exact wfX15_read_b64 K0  hf
set_option maxHeartbeats 4000000 in
set_option maxRecDepth 100000 in
theorem wfX15_read_b12 {h0 h : pm_H} (K0 : pw_F WX15_read h0 h) {x0 : Nat} {x1 : Int32} {x2 : Int64} {s0 : Int32}  {r : pm_H} (hf : fX15_read_b12 h x0 x1 x2 s0 = some r) : pw_F WX15_read h0 r := by
  unfold fX15_read_b12 at hf
  by_cases c2 : x1 = 2
  · have hf := pm_it hf c2
    exact wfX15_read_b28 K0  hf
  · have hf := pm_ie hf c2
    exact wfX15_read_b28 K0  hf
set_option maxHeartbeats 4000000 in
set_option maxRecDepth 100000 in
theorem wfX15_read {h0 h : pm_H} (K0 : pw_F WX15_read h0 h) {a0 : Nat} {p1 : Int32} {p2 : Int64}  {r : pm_H} (hf : fX15_read h a0 p1 p2 = some r) : pw_F WX15_read h0 r := by
  unfold fX15_read at hf
  by_cases c1 : p1 = 2
  · have hf := pm_it hf c1
    exact wfX15_read_b12 K0  hf
  · have hf := pm_ie hf c1
    exact wfX15_read_b12 K0  hf
abbrev WX16_argument : List Nat := [2129, 4480]
set_option maxHeartbeats 4000000 in
set_option maxRecDepth 100000 in
theorem wfX16_argument {h0 h : pm_H} (K0 : pw_F WX16_argument h0 h) {a0 : Nat} {p1 : Int64}  {r : (Int32 × pm_H)} (hf : fX16_argument h a0 p1 = some r) : pw_F WX16_argument h0 r.2 := by
  unfold fX16_argument at hf
  obtain ⟨k1, hf⟩ := pm_if hf
  by_cases c2 : (pm_I h a0 81) = 16
  · have hf := pm_it hf c2
    cases hf
    exact K0
  · have hf := pm_ie hf c2
    obtain ⟨v3, e4, hf⟩ := pm_bd hf
    obtain ⟨k5, hf⟩ := pm_if hf
    obtain ⟨u6, hf⟩ := pm_if hf
    obtain ⟨y7, e8, hf⟩ := pm_lt hf
    cases hf
    exact (pw_sI (pw_aL K0 rfl k5 (by decide) (by decide)) (pkL rfl) k1 (by decide))
abbrev WX16_branches : List Nat := [2141, 2142, 2144, 4480]
set_option maxHeartbeats 4000000 in
set_option maxRecDepth 100000 in
theorem wlX16_branches {h0 : pm_H} {r : pm_H} : ∀ n : Nat, (∀ (x0 : Nat) (x2 : Int32) (x3 : Int32) (x4 : Int32) (x5 : Int32) (h : pm_H), pw_F WX16_branches h0 h → pm_iter sX16_branches n (x0, x2, x3, x4, x5, h) = some r → pw_F WX16_branches h0 r) := by
  intro n
  induction n with
  | zero => exact fun _ _ _ _ _ _ _ hf => (by cases hf)
  | succ n ih =>
    refine fun x0 x2 x3 x4 x5 h K0 hf => ?_
    obtain ⟨y, hf, hi⟩ := pm_iter_s hf
    have hf : tX16_branches_27 x0 x2 x3 x4 x5 h = some y := hf
    unfold tX16_branches_27 at hf
    by_cases c12 : x3 ≤ x5
    · have hf := pm_it hf c12
      obtain ⟨k13, hf⟩ := pm_if hf
      obtain ⟨v14, e15, hf⟩ := pm_bd hf
      obtain ⟨k16, hf⟩ := pm_if hf
      obtain ⟨u17, hf⟩ := pm_if hf
      obtain ⟨y18, e19, hf⟩ := pm_lt hf
      obtain ⟨v20, e21, hf⟩ := pm_bd hf
      obtain ⟨k22, hf⟩ := pm_if hf
      have k22b := (congrFun (pkI rfl) v20).symm.trans k22
      obtain ⟨u23, hf⟩ := pm_if hf
      obtain ⟨y24, e25, hf⟩ := pm_lt hf
      obtain ⟨v26, e27, hf⟩ := pm_bd hf
      obtain ⟨k28, hf⟩ := pm_if hf
      have k28b := (congrFun (pkI (pkI rfl)) v26).symm.trans k28
      obtain ⟨u29, hf⟩ := pm_if hf
      by_cases c30 : (pm_I (pm_setI (pm_setI h x0 93 y18) x0 94 y24) v26 x2.toNatClampNeg) = 0
      · have hf := pm_it hf c30
        cases hf
        cases hi
        exact (pw_sI (pw_sI (pw_sI K0 rfl k13 (by decide)) (pkI rfl) k13 (by decide)) (pkI (pkI rfl)) k13 (by decide))
      · have hf := pm_ie hf c30
        obtain ⟨y31, e32, hf⟩ := pm_lt hf
        cases hf
        cases hi
        exact (pw_sI (pw_sI (pw_sI K0 rfl k13 (by decide)) (pkI rfl) k13 (by decide)) (pkI (pkI rfl)) k13 (by decide))
    · have hf := pm_ie hf c12
      obtain ⟨k33, hf⟩ := pm_if hf
      obtain ⟨v34, e35, hf⟩ := pm_bd hf
      obtain ⟨v36, e37, hf⟩ := pm_bd hf
      obtain ⟨k38, hf⟩ := pm_if hf
      obtain ⟨u39, hf⟩ := pm_if hf
      obtain ⟨y40, e41, hf⟩ := pm_lt hf
      obtain ⟨k42, hf⟩ := pm_if hf
      obtain ⟨u43, hf⟩ := pm_if hf
      obtain ⟨y44, e45, hf⟩ := pm_lt hf
      obtain ⟨u46, hf⟩ := pm_if hf
      obtain ⟨y47, e48, hf⟩ := pm_lt hf
      cases hf
      exact ih x0 x2 x3 x4 y47 (pm_setL h v34 (((pm_I h v36 x2.toNatClampNeg) + x5).toNatClampNeg) y44) (pw_aL K0 rfl k42 (by decide) (by decide))  hi
set_option maxHeartbeats 4000000 in
set_option maxRecDepth 100000 in
theorem wfX16_branches {h0 h : pm_H} (K0 : pw_F WX16_branches h0 h) {a0 : Nat} {p1 : Int32}  {r : pm_H} (hf : fX16_branches h a0 p1 = some r) : pw_F WX16_branches h0 r := by
  unfold fX16_branches at hf
  obtain ⟨k1, hf⟩ := pm_if hf
  obtain ⟨y2, e3, hf⟩ := pm_lt hf
  obtain ⟨v4, e5, hf⟩ := pm_bd hf
  obtain ⟨k6, hf⟩ := pm_if hf
  obtain ⟨u7, hf⟩ := pm_if hf
  obtain ⟨y8, e9, hf⟩ := pm_lt hf
  obtain ⟨y10, e11, hf⟩ := pm_lt hf
  obtain ⟨n, hn⟩ := pm_lim_iter hf
  exact (wlX16_branches n) a0 y2 y8 y10 0 h K0  hn
abbrev WX16_bytesAt : List Nat := [2067]
set_option maxHeartbeats 4000000 in
set_option maxRecDepth 100000 in
theorem wlX16_bytesAt {h0 : pm_H} {r : (Int64 × pm_H)} : ∀ n : Nat, (∀ (x0 : Nat) (x1 : Int32) (x2 : Int64) (x4 : Int32) (h : pm_H), pw_F WX16_bytesAt h0 h → pm_iter sX16_bytesAt n (x0, x1, x2, x4, h) = some r → pw_F WX16_bytesAt h0 r.2) := by
  intro n
  induction n with
  | zero => exact fun _ _ _ _ _ _ hf => (by cases hf)
  | succ n ih =>
    refine fun x0 x1 x2 x4 h K0 hf => ?_
    obtain ⟨y, hf, hi⟩ := pm_iter_s hf
    have hf : tX16_bytesAt_5 x0 x1 x2 x4 h = some y := hf
    unfold tX16_bytesAt_5 at hf
    by_cases c1 : x1 ≤ x4
    · have hf := pm_it hf c1
      obtain ⟨k2, hf⟩ := pm_if hf
      obtain ⟨y3, e4, hf⟩ := pm_lt hf
      cases hf
      cases hi
      exact (pw_sI K0 rfl k2 (by decide))
    · have hf := pm_ie hf c1
      obtain ⟨k5, hf⟩ := pm_if hf
      obtain ⟨v6, e7, hf⟩ := pm_bd hf
      obtain ⟨k8, hf⟩ := pm_if hf
      obtain ⟨v9, e10, hf⟩ := pm_bd hf
      obtain ⟨y11, e12, hf⟩ := pm_lt hf
      obtain ⟨y13, e14, hf⟩ := pm_lt hf
      cases hf
      exact ih x0 x1 y11 y13 h K0  hi
set_option maxHeartbeats 4000000 in
set_option maxRecDepth 100000 in
theorem wfX16_bytesAt {h0 h : pm_H} (K0 : pw_F WX16_bytesAt h0 h) {a0 : Nat} {p1 : Int32}  {r : (Int64 × pm_H)} (hf : fX16_bytesAt h a0 p1 = some r) : pw_F WX16_bytesAt h0 r.2 := by
  unfold fX16_bytesAt at hf
  obtain ⟨n, hn⟩ := pm_lim_iter hf
  exact (wlX16_bytesAt n) a0 p1 0 0 h K0  hn
abbrev WX16_copiesElement : List Nat := [4352]
set_option maxHeartbeats 4000000 in
set_option maxRecDepth 100000 in
theorem wlX16_copiesElement {h0 : pm_H} {r : (Int32 × pm_H)} : ∀ n : Nat, (∀ (x0 : Nat) (x1 : Int32) (x2 : Int32) (x3 : Int32) (x4 : Int64) (x6 : Int64) (x8 : Int64) (x10 : Int32) (h : pm_H), pw_F WX16_copiesElement h0 h → pm_iter sX16_copiesElement n (x0, x1, x2, x3, x4, x6, x8, x10, h) = some r → pw_F WX16_copiesElement h0 r.2) := by
  intro n
  induction n with
  | zero => exact fun _ _ _ _ _ _ _ _ _ _ hf => (by cases hf)
  | succ n ih =>
    refine fun x0 x1 x2 x3 x4 x6 x8 x10 h K0 hf => ?_
    obtain ⟨y, hf, hi⟩ := pm_iter_s hf
    have hf : tX16_copiesElement_42 x0 x1 x2 x3 x4 x6 x8 x10 h = some y := hf
    unfold tX16_copiesElement_42 at hf
    by_cases c14 : x8 ≤ x10.toInt64
    · have hf := pm_it hf c14
      cases hf
      cases hi
      exact K0
    · have hf := pm_ie hf c14
      obtain ⟨k15, hf⟩ := pm_if hf
      obtain ⟨v16, e17, hf⟩ := pm_bd hf
      obtain ⟨v18, e19, hf⟩ := pm_bd hf
      obtain ⟨v20, e21, hf⟩ := pm_bd hf
      obtain ⟨y22, e23, hf⟩ := pm_lt hf
      obtain ⟨k24, hf⟩ := pm_if hf
      obtain ⟨u25, hf⟩ := pm_if hf
      obtain ⟨y26, e27, hf⟩ := pm_lt hf
      obtain ⟨k28, hf⟩ := pm_if hf
      obtain ⟨u29, hf⟩ := pm_if hf
      obtain ⟨y30, e31, hf⟩ := pm_lt hf
      obtain ⟨k32, hf⟩ := pm_if hf
      obtain ⟨u33, hf⟩ := pm_if hf
      obtain ⟨y34, e35, hf⟩ := pm_lt hf
      cases hf
      exact ih x0 x1 x2 x3 x4 x6 x8 y34 (pm_setI h v16 ((((1024 * x3) + x4.toInt32) + x10).toNatClampNeg) y30) (pw_aI K0 rfl k32 (by decide) (by decide))  hi
set_option maxHeartbeats 4000000 in
set_option maxRecDepth 100000 in
theorem wfX16_copiesElement {h0 h : pm_H} (K0 : pw_F WX16_copiesElement h0 h) {a0 : Nat} {p1 : Int32} {p2 : Int32} {p3 : Int32} {p4 : Int64} {p5 : Int64} {p6 : Int64}  {r : (Int32 × pm_H)} (hf : fX16_copiesElement h a0 p1 p2 p3 p4 p5 p6 = some r) : pw_F WX16_copiesElement h0 r.2 := by
  unfold fX16_copiesElement at hf
  obtain ⟨k1, hf⟩ := pm_if hf
  obtain ⟨v2, e3, hf⟩ := pm_bd hf
  obtain ⟨y4, e5, hf⟩ := pm_lt hf
  obtain ⟨k6, hf⟩ := pm_if hf
  obtain ⟨u7, hf⟩ := pm_if hf
  by_cases c8 : ((pm_I h v2 y4.toNatClampNeg).toInt64) < (p5 + p6)
  · have hf := pm_it hf c8
    cases hf
    exact K0
  · have hf := pm_ie hf c8
    obtain ⟨v9, e10, hf⟩ := pm_bd hf
    obtain ⟨k11, hf⟩ := pm_if hf
    obtain ⟨u12, hf⟩ := pm_if hf
    by_cases c13 : (p4 + p6) ≤ ((pm_I h v9 p3.toNatClampNeg).toInt64)
    · have hf := pm_it hf c13
      obtain ⟨n, hn⟩ := pm_lim_iter hf
      exact (wlX16_copiesElement n) a0 p1 p2 p3 p4 p5 p6 0 h K0  hn
    · have hf := pm_ie hf c13
      cases hf
      exact K0
abbrev WX16_counts : List Nat := [2093, 4096, 4352]
set_option maxHeartbeats 4000000 in
set_option maxRecDepth 100000 in
theorem wfX16_counts {h0 h : pm_H} (K0 : pw_F WX16_counts h0 h) {a0 : Nat} {p1 : Int32}  {r : pm_H} (hf : fX16_counts h a0 p1 = some r) : pw_F WX16_counts h0 r := by
  unfold fX16_counts at hf
  obtain ⟨k1, hf⟩ := pm_if hf
  obtain ⟨v2, e3, hf⟩ := pm_bd hf
  obtain ⟨k4, hf⟩ := pm_if hf
  obtain ⟨u5, hf⟩ := pm_if hf
  obtain ⟨y6, e7, hf⟩ := pm_lt hf
  obtain ⟨u8, hf⟩ := pm_if hf
  obtain ⟨v9, e10, hf⟩ := pm_bd hf
  obtain ⟨k11, hf⟩ := pm_if hf
  have k11b := (congrFun (pkI rfl) v9).symm.trans k11
  obtain ⟨u12, hf⟩ := pm_if hf
  by_cases c13 : (pm_I (pm_setI h v2 p1.toNatClampNeg y6) v9 p1.toNatClampNeg) = 0
  · have hf := pm_it hf c13
    by_cases c14 : (pm_I (pm_setI h v2 p1.toNatClampNeg y6) a0 44) ≤ 0
    · have hf := pm_it hf c14
      cases hf
      exact (pw_aI K0 rfl k4 (by decide) (by decide))
    · have hf := pm_ie hf c14
      obtain ⟨u15, hf⟩ := pm_if hf
      by_cases c16 : (pm_I (pm_setI h v2 p1.toNatClampNeg y6) v2 p1.toNatClampNeg) < (pm_I (pm_setI h v2 p1.toNatClampNeg y6) a0 44)
      · have hf := pm_it hf c16
        cases hf
        exact (pw_aI K0 rfl k4 (by decide) (by decide))
      · have hf := pm_ie hf c16
        obtain ⟨u17, hf⟩ := pm_if hf
        obtain ⟨y18, e19, hf⟩ := pm_lt hf
        cases hf
        exact (pw_sI (pw_aI (pw_aI K0 rfl k4 (by decide) (by decide)) (pkI rfl) k11b (by decide) (by decide)) (pkI (pkI rfl)) k1 (by decide))
  · have hf := pm_ie hf c13
    cases hf
    exact (pw_aI K0 rfl k4 (by decide) (by decide))
abbrev WX16_declare : List Nat := [4096]
set_option maxHeartbeats 4000000 in
set_option maxRecDepth 100000 in
theorem wfX16_declare {h0 h : pm_H} (K0 : pw_F WX16_declare h0 h) {a0 : Nat} {p1 : Int64}  {r : pm_H} (hf : fX16_declare h a0 p1 = some r) : pw_F WX16_declare h0 r := by
  unfold fX16_declare at hf
  by_cases c1 : 128 ≤ p1
  · have hf := pm_it hf c1
    cases hf
    exact K0
  · have hf := pm_ie hf c1
    obtain ⟨k2, hf⟩ := pm_if hf
    obtain ⟨v3, e4, hf⟩ := pm_bd hf
    obtain ⟨k5, hf⟩ := pm_if hf
    obtain ⟨u6, hf⟩ := pm_if hf
    cases hf
    exact (pw_aI K0 rfl k5 (by decide) (by decide))
abbrev WX16_dies : List Nat := [2071, 4096]
set_option maxHeartbeats 4000000 in
set_option maxRecDepth 100000 in
theorem wfX16_dies {h0 h : pm_H} (K0 : pw_F WX16_dies h0 h) {a0 : Nat}  {r : pm_H} (hf : fX16_dies h a0 = some r) : pw_F WX16_dies h0 r := by
  unfold fX16_dies at hf
  obtain ⟨k1, hf⟩ := pm_if hf
  obtain ⟨v2, e3, hf⟩ := pm_bd hf
  obtain ⟨y4, e5, hf⟩ := pm_lt hf
  obtain ⟨k6, hf⟩ := pm_if hf
  obtain ⟨u7, hf⟩ := pm_if hf
  obtain ⟨y8, e9, hf⟩ := pm_lt hf
  obtain ⟨v10, e11, hf⟩ := pm_bd hf
  obtain ⟨k12, hf⟩ := pm_if hf
  have k12b := (congrFun (pkI rfl) v10).symm.trans k12
  obtain ⟨u13, hf⟩ := pm_if hf
  cases hf
  exact (pw_aI (pw_sI K0 rfl k1 (by decide)) (pkI rfl) k12b (by decide) (by decide))
abbrev WX16_dropped : List Nat := [4352]
set_option maxHeartbeats 4000000 in
set_option maxRecDepth 100000 in
theorem wfX16_dropped {h0 h : pm_H} (K0 : pw_F WX16_dropped h0 h) {a0 : Nat} {p1 : Int32} {p2 : Int32}  {r : pm_H} (hf : fX16_dropped h a0 p1 p2 = some r) : pw_F WX16_dropped h0 r := by
  unfold fX16_dropped at hf
  obtain ⟨k1, hf⟩ := pm_if hf
  obtain ⟨v2, e3, hf⟩ := pm_bd hf
  obtain ⟨k4, hf⟩ := pm_if hf
  obtain ⟨u5, hf⟩ := pm_if hf
  cases hf
  exact (pw_aI K0 rfl k4 (by decide) (by decide))
abbrev WX16_endsBy : List Nat := [2124, 2125]
set_option maxHeartbeats 4000000 in
set_option maxRecDepth 100000 in
theorem wfX16_endsBy {h0 h : pm_H} (K0 : pw_F WX16_endsBy h0 h) {a0 : Nat} {p1 : Int32} {p2 : Int32}  {r : pm_H} (hf : fX16_endsBy h a0 p1 p2 = some r) : pw_F WX16_endsBy h0 r := by
  unfold fX16_endsBy at hf
  by_cases c1 : p2 = 0
  · have hf := pm_it hf c1
    cases hf
    exact K0
  · have hf := pm_ie hf c1
    obtain ⟨k2, hf⟩ := pm_if hf
    cases hf
    exact (pw_sI (pw_sI K0 rfl k2 (by decide)) (pkI rfl) k2 (by decide))
abbrev WX16_exceeds : List Nat := [1795]
set_option maxHeartbeats 4000000 in
set_option maxRecDepth 100000 in
theorem wfX16_exceeds {h0 h : pm_H} (K0 : pw_F WX16_exceeds h0 h) {a0 : Nat} {p1 : Int32}  {r : pm_H} (hf : fX16_exceeds h a0 p1 = some r) : pw_F WX16_exceeds h0 r := by
  unfold fX16_exceeds at hf
  by_cases c1 : p1 = 0
  · have hf := pm_it hf c1
    cases hf
    exact K0
  · have hf := pm_ie hf c1
    obtain ⟨k2, hf⟩ := pm_if hf
    obtain ⟨v3, e4, hf⟩ := pm_bd hf
    obtain ⟨k5, hf⟩ := pm_if hf
    by_cases c6 : 0 ≤ (pm_I h v3 3)
    · have hf := pm_it hf c6
      cases hf
      exact K0
    · have hf := pm_ie hf c6
      obtain ⟨y7, e8, hf⟩ := pm_lt hf
      cases hf
      exact (pw_sI K0 rfl k5 (by decide))
abbrev WX16_failsAtOnce : List Nat := [2124, 2125, 2126, 2133]
set_option maxHeartbeats 4000000 in
set_option maxRecDepth 100000 in
theorem wfX16_failsAtOnce {h0 h : pm_H} (K0 : pw_F WX16_failsAtOnce h0 h) {a0 : Nat} {p1 : Int32}  {r : pm_H} (hf : fX16_failsAtOnce h a0 p1 = some r) : pw_F WX16_failsAtOnce h0 r := by
  unfold fX16_failsAtOnce at hf
  obtain ⟨k1, hf⟩ := pm_if hf
  cases hf
  exact (pw_sI (pw_sI (pw_sI (pw_sI K0 rfl k1 (by decide)) (pkI rfl) k1 (by decide)) (pkI (pkI rfl)) k1 (by decide)) (pkI (pkI (pkI rfl))) k1 (by decide))
abbrev WX16_grows : List Nat := [2095, 4352]
set_option maxHeartbeats 4000000 in
set_option maxRecDepth 100000 in
theorem wlX16_grows {h0 : pm_H} {r : pm_H} : ∀ n : Nat, (∀ (x0 : Nat) (x1 : Int32) (x2 : Int32) (x3 : Int32) (x4 : Int32) (h : pm_H), pw_F WX16_grows h0 h → pm_iter sX16_grows n (x0, x1, x2, x3, x4, h) = some r → pw_F WX16_grows h0 r) := by
  intro n
  induction n with
  | zero => exact fun _ _ _ _ _ _ _ hf => (by cases hf)
  | succ n ih =>
    refine fun x0 x1 x2 x3 x4 h K0 hf => ?_
    obtain ⟨y, hf, hi⟩ := pm_iter_s hf
    have hf : tX16_grows_3 x0 x1 x2 x3 x4 h = some y := hf
    unfold tX16_grows_3 at hf
    by_cases c1 : x2 ≤ x4
    · have hf := pm_it hf c1
      obtain ⟨k2, hf⟩ := pm_if hf
      obtain ⟨v3, e4, hf⟩ := pm_bd hf
      obtain ⟨k5, hf⟩ := pm_if hf
      obtain ⟨u6, hf⟩ := pm_if hf
      obtain ⟨y7, e8, hf⟩ := pm_lt hf
      obtain ⟨u9, hf⟩ := pm_if hf
      obtain ⟨y10, e11, hf⟩ := pm_lt hf
      cases hf
      cases hi
      exact (pw_sI (pw_aI K0 rfl k5 (by decide) (by decide)) (pkI rfl) k2 (by decide))
    · have hf := pm_ie hf c1
      obtain ⟨k12, hf⟩ := pm_if hf
      obtain ⟨v13, e14, hf⟩ := pm_bd hf
      obtain ⟨v15, e16, hf⟩ := pm_bd hf
      obtain ⟨k17, hf⟩ := pm_if hf
      obtain ⟨u18, hf⟩ := pm_if hf
      obtain ⟨k19, hf⟩ := pm_if hf
      obtain ⟨u20, hf⟩ := pm_if hf
      obtain ⟨y21, e22, hf⟩ := pm_lt hf
      cases hf
      exact ih x0 x1 x2 x3 y21 (pm_setI h v13 ((((1024 * x1) + (pm_I h v15 x1.toNatClampNeg)) + x4).toNatClampNeg) x3) (pw_aI K0 rfl k19 (by decide) (by decide))  hi
set_option maxHeartbeats 4000000 in
set_option maxRecDepth 100000 in
theorem wfX16_grows {h0 h : pm_H} (K0 : pw_F WX16_grows h0 h) {a0 : Nat} {p1 : Int32} {p2 : Int32} {p3 : Int32}  {r : pm_H} (hf : fX16_grows h a0 p1 p2 p3 = some r) : pw_F WX16_grows h0 r := by
  unfold fX16_grows at hf
  obtain ⟨n, hn⟩ := pm_lim_iter hf
  exact (wlX16_grows n) a0 p1 p2 p3 0 h K0  hn
abbrev WX16_growsPages : List Nat := [2101, 4352]
set_option maxHeartbeats 4000000 in
set_option maxRecDepth 100000 in
theorem wlX16_growsPages {h0 : pm_H} {r : pm_H} : ∀ n : Nat, (∀ (x0 : Nat) (x1 : Int32) (x2 : Int32) (x3 : Int32) (h : pm_H), pw_F WX16_growsPages h0 h → pm_iter sX16_growsPages n (x0, x1, x2, x3, h) = some r → pw_F WX16_growsPages h0 r) := by
  intro n
  induction n with
  | zero => exact fun _ _ _ _ _ _ hf => (by cases hf)
  | succ n ih =>
    refine fun x0 x1 x2 x3 h K0 hf => ?_
    obtain ⟨y, hf, hi⟩ := pm_iter_s hf
    have hf : tX16_growsPages_2 x0 x1 x2 x3 h = some y := hf
    unfold tX16_growsPages_2 at hf
    by_cases c1 : x2 ≤ x3
    · have hf := pm_it hf c1
      cases hf
      cases hi
      exact K0
    · have hf := pm_ie hf c1
      obtain ⟨k2, hf⟩ := pm_if hf
      obtain ⟨v3, e4, hf⟩ := pm_bd hf
      obtain ⟨v5, e6, hf⟩ := pm_bd hf
      obtain ⟨k7, hf⟩ := pm_if hf
      obtain ⟨u8, hf⟩ := pm_if hf
      obtain ⟨y9, e10, hf⟩ := pm_lt hf
      obtain ⟨k11, hf⟩ := pm_if hf
      obtain ⟨u12, hf⟩ := pm_if hf
      obtain ⟨u13, hf⟩ := pm_if hf
      obtain ⟨y14, e15, hf⟩ := pm_lt hf
      obtain ⟨u16, hf⟩ := pm_if hf
      obtain ⟨y17, e18, hf⟩ := pm_lt hf
      obtain ⟨y19, e20, hf⟩ := pm_lt hf
      cases hf
      exact ih x0 x1 x2 y19 (pm_setI (pm_setI (pm_setI h v3 (((8 * x1) + (pm_I h v5 x1.toNatClampNeg)).toNatClampNeg) y9) v5 x1.toNatClampNeg y14) x0 53 y17) (pw_sI (pw_aI (pw_aI K0 rfl k11 (by decide) (by decide)) (pkI rfl) k7 (by decide) (by decide)) (pkI (pkI rfl)) k2 (by decide))  hi
set_option maxHeartbeats 4000000 in
set_option maxRecDepth 100000 in
theorem wfX16_growsPages {h0 h : pm_H} (K0 : pw_F WX16_growsPages h0 h) {a0 : Nat} {p1 : Int32} {p2 : Int32}  {r : pm_H} (hf : fX16_growsPages h a0 p1 p2 = some r) : pw_F WX16_growsPages h0 r := by
  unfold fX16_growsPages at hf
  obtain ⟨n, hn⟩ := pm_lim_iter hf
  exact (wlX16_growsPages n) a0 p1 p2 0 h K0  hn
abbrev WX16_has : List Nat := [4352]
set_option maxHeartbeats 4000000 in
set_option maxRecDepth 100000 in
theorem wfX16_has {h0 h : pm_H} (K0 : pw_F WX16_has h0 h) {a0 : Nat} {p1 : Int32} {p2 : Int32} {p3 : Int32} {p4 : Int32}  {r : pm_H} (hf : fX16_has h a0 p1 p2 p3 p4 = some r) : pw_F WX16_has h0 r := by
  unfold fX16_has at hf
  obtain ⟨y1, e2, hf⟩ := pm_lt hf
  by_cases c3 : p1 = 0
  · have hf := pm_it hf c3
    obtain ⟨k4, hf⟩ := pm_if hf
    obtain ⟨v5, e6, hf⟩ := pm_bd hf
    obtain ⟨k7, hf⟩ := pm_if hf
    obtain ⟨u8, hf⟩ := pm_if hf
    cases hf
    exact (pw_aI K0 rfl k7 (by decide) (by decide))
  · have hf := pm_ie hf c3
    by_cases c9 : p1 = 1
    · have hf := pm_it hf c9
      obtain ⟨k10, hf⟩ := pm_if hf
      obtain ⟨v11, e12, hf⟩ := pm_bd hf
      obtain ⟨k13, hf⟩ := pm_if hf
      obtain ⟨u14, hf⟩ := pm_if hf
      cases hf
      exact (pw_aI K0 rfl k13 (by decide) (by decide))
    · have hf := pm_ie hf c9
      by_cases c15 : p1 = 2
      · have hf := pm_it hf c15
        obtain ⟨k16, hf⟩ := pm_if hf
        obtain ⟨v17, e18, hf⟩ := pm_bd hf
        obtain ⟨k19, hf⟩ := pm_if hf
        obtain ⟨u20, hf⟩ := pm_if hf
        cases hf
        exact (pw_aI K0 rfl k19 (by decide) (by decide))
      · have hf := pm_ie hf c15
        obtain ⟨k21, hf⟩ := pm_if hf
        obtain ⟨v22, e23, hf⟩ := pm_bd hf
        obtain ⟨k24, hf⟩ := pm_if hf
        obtain ⟨u25, hf⟩ := pm_if hf
        cases hf
        exact (pw_aI K0 rfl k24 (by decide) (by decide))
abbrev WX16_kept : List Nat := [1795]
set_option maxHeartbeats 4000000 in
set_option maxRecDepth 100000 in
theorem wfX16_kept {h0 h : pm_H} (K0 : pw_F WX16_kept h0 h) {a0 : Nat} {p1 : Int64}  {r : (Int32 × pm_H)} (hf : fX16_kept h a0 p1 = some r) : pw_F WX16_kept h0 r.2 := by
  unfold fX16_kept at hf
  by_cases c1 : p1 ≤ 64
  · have hf := pm_it hf c1
    obtain ⟨k2, hf⟩ := pm_if hf
    obtain ⟨v3, e4, hf⟩ := pm_bd hf
    have K5 := pw_t (by decide) K0 (wfX16_exceeds (pw_rf _) e4)
    by_cases c6 : p1 ≤ 64
    · have hf := pm_it hf c6
      cases hf
      exact K5
    · have hf := pm_ie hf c6
      cases hf
      exact K5
  · have hf := pm_ie hf c1
    obtain ⟨k7, hf⟩ := pm_if hf
    obtain ⟨v8, e9, hf⟩ := pm_bd hf
    have K10 := pw_t (by decide) K0 (wfX16_exceeds (pw_rf _) e9)
    by_cases c11 : p1 ≤ 64
    · have hf := pm_it hf c11
      cases hf
      exact K10
    · have hf := pm_ie hf c11
      cases hf
      exact K10
abbrev WX16_newFunction : List Nat := [2084, 4352]
set_option maxHeartbeats 4000000 in
set_option maxRecDepth 100000 in
theorem wfX16_newFunction {h0 h : pm_H} (K0 : pw_F WX16_newFunction h0 h) {a0 : Nat} {p1 : Int32} {p2 : Int32} {p3 : Int32} {p4 : Int32} {p5 : Int32}  {r : (Int32 × pm_H)} (hf : fX16_newFunction h a0 p1 p2 p3 p4 p5 = some r) : pw_F WX16_newFunction h0 r.2 := by
  unfold fX16_newFunction at hf
  obtain ⟨k1, hf⟩ := pm_if hf
  obtain ⟨v2, e3, hf⟩ := pm_bd hf
  obtain ⟨k4, hf⟩ := pm_if hf
  obtain ⟨u5, hf⟩ := pm_if hf
  obtain ⟨v6, e7, hf⟩ := pm_bd hf
  obtain ⟨k8, hf⟩ := pm_if hf
  have k8b := (congrFun (pkI rfl) v6).symm.trans k8
  obtain ⟨u9, hf⟩ := pm_if hf
  obtain ⟨v10, e11, hf⟩ := pm_bd hf
  obtain ⟨k12, hf⟩ := pm_if hf
  have k12b := (congrFun (pkI (pkI rfl)) v10).symm.trans k12
  obtain ⟨u13, hf⟩ := pm_if hf
  obtain ⟨v14, e15, hf⟩ := pm_bd hf
  obtain ⟨k16, hf⟩ := pm_if hf
  have k16b := (congrFun (pkI (pkI (pkI rfl))) v14).symm.trans k16
  obtain ⟨u17, hf⟩ := pm_if hf
  obtain ⟨v18, e19, hf⟩ := pm_bd hf
  obtain ⟨k20, hf⟩ := pm_if hf
  have k20b := (congrFun (pkI (pkI (pkI (pkI rfl)))) v18).symm.trans k20
  obtain ⟨u21, hf⟩ := pm_if hf
  obtain ⟨y22, e23, hf⟩ := pm_lt hf
  cases hf
  exact (pw_sI (pw_aI (pw_aI (pw_aI (pw_aI (pw_aI K0 rfl k4 (by decide) (by decide)) (pkI rfl) k8b (by decide) (by decide)) (pkI (pkI rfl)) k12b (by decide) (by decide)) (pkI (pkI (pkI rfl))) k16b (by decide) (by decide)) (pkI (pkI (pkI (pkI rfl)))) k20b (by decide) (by decide)) (pkI (pkI (pkI (pkI (pkI rfl))))) k1 (by decide))
abbrev WX16_opens : List Nat := [2144, 4096, 4352]
set_option maxHeartbeats 4000000 in
set_option maxRecDepth 100000 in
theorem wfX16_opens {h0 h : pm_H} (K0 : pw_F WX16_opens h0 h) {a0 : Nat} {p1 : Int32} {p2 : Int32} {p3 : Int32} {p4 : Int32}  {r : pm_H} (hf : fX16_opens h a0 p1 p2 p3 p4 = some r) : pw_F WX16_opens h0 r := by
  unfold fX16_opens at hf
  obtain ⟨k1, hf⟩ := pm_if hf
  obtain ⟨v2, e3, hf⟩ := pm_bd hf
  obtain ⟨k4, hf⟩ := pm_if hf
  obtain ⟨u5, hf⟩ := pm_if hf
  obtain ⟨v6, e7, hf⟩ := pm_bd hf
  obtain ⟨y8, e9, hf⟩ := pm_lt hf
  obtain ⟨k10, hf⟩ := pm_if hf
  have k10b := (congrFun (pkI rfl) v6).symm.trans k10
  obtain ⟨u11, hf⟩ := pm_if hf
  obtain ⟨v12, e13, hf⟩ := pm_bd hf
  obtain ⟨k14, hf⟩ := pm_if hf
  have k14b := (congrFun (pkI (pkI rfl)) v12).symm.trans k14
  obtain ⟨u15, hf⟩ := pm_if hf
  obtain ⟨v16, e17, hf⟩ := pm_bd hf
  obtain ⟨k18, hf⟩ := pm_if hf
  have k18b := (congrFun (pkI (pkI (pkI rfl))) v16).symm.trans k18
  obtain ⟨u19, hf⟩ := pm_if hf
  obtain ⟨y20, e21, hf⟩ := pm_lt hf
  cases hf
  exact (pw_sI (pw_aI (pw_aI (pw_aI (pw_aI K0 rfl k4 (by decide) (by decide)) (pkI rfl) k10b (by decide) (by decide)) (pkI (pkI rfl)) k14b (by decide) (by decide)) (pkI (pkI (pkI rfl))) k18b (by decide) (by decide)) (pkI (pkI (pkI (pkI rfl)))) k1 (by decide))
abbrev WX16_pop : List Nat := [2141]
set_option maxHeartbeats 4000000 in
set_option maxRecDepth 100000 in
theorem wfX16_pop {h0 h : pm_H} (K0 : pw_F WX16_pop h0 h) {a0 : Nat}  {r : (Int64 × pm_H)} (hf : fX16_pop h a0 = some r) : pw_F WX16_pop h0 r.2 := by
  unfold fX16_pop at hf
  obtain ⟨k1, hf⟩ := pm_if hf
  obtain ⟨y2, e3, hf⟩ := pm_lt hf
  obtain ⟨v4, e5, hf⟩ := pm_bd hf
  obtain ⟨y6, e7, hf⟩ := pm_lt hf
  obtain ⟨k8, hf⟩ := pm_if hf
  have k8b := (congrFun (pkI rfl) v4).symm.trans k8
  obtain ⟨u9, hf⟩ := pm_if hf
  cases hf
  exact (pw_sI K0 rfl k1 (by decide))
abbrev WX16_push : List Nat := [2141, 4480]
set_option maxHeartbeats 4000000 in
set_option maxRecDepth 100000 in
theorem wfX16_push {h0 h : pm_H} (K0 : pw_F WX16_push h0 h) {a0 : Nat} {p1 : Int64}  {r : pm_H} (hf : fX16_push h a0 p1 = some r) : pw_F WX16_push h0 r := by
  unfold fX16_push at hf
  obtain ⟨k1, hf⟩ := pm_if hf
  obtain ⟨v2, e3, hf⟩ := pm_bd hf
  obtain ⟨k4, hf⟩ := pm_if hf
  obtain ⟨u5, hf⟩ := pm_if hf
  obtain ⟨y6, e7, hf⟩ := pm_lt hf
  cases hf
  exact (pw_sI (pw_aL K0 rfl k4 (by decide) (by decide)) (pkL rfl) k1 (by decide))
abbrev WX16_puts : List Nat := [2049, 4224]
set_option maxHeartbeats 4000000 in
set_option maxRecDepth 100000 in
theorem wlX16_puts {h0 : pm_H} {r : pm_H} : ∀ n : Nat, (∀ (x0 : Nat) (x1 : Int32) (x2 : Int32) (h : pm_H), pw_F WX16_puts h0 h → pm_iter sX16_puts n (x0, x1, x2, h) = some r → pw_F WX16_puts h0 r) := by
  intro n
  induction n with
  | zero => exact fun _ _ _ _ _ hf => (by cases hf)
  | succ n ih =>
    refine fun x0 x1 x2 h K0 hf => ?_
    obtain ⟨y, hf, hi⟩ := pm_iter_s hf
    have hf : tX16_puts_3 x0 x1 x2 h = some y := hf
    unfold tX16_puts_3 at hf
    by_cases c1 : x2 < 0
    · have hf := pm_it hf c1
      cases hf
      cases hi
      exact K0
    · have hf := pm_ie hf c1
      obtain ⟨k2, hf⟩ := pm_if hf
      obtain ⟨v3, e4, hf⟩ := pm_bd hf
      obtain ⟨y5, e6, hf⟩ := pm_lt hf
      obtain ⟨k7, hf⟩ := pm_if hf
      obtain ⟨u8, hf⟩ := pm_if hf
      obtain ⟨y9, e10, hf⟩ := pm_lt hf
      obtain ⟨y11, e12, hf⟩ := pm_lt hf
      cases hf
      exact ih x0 x1 y11 (pm_setI (pm_setI h v3 ((pm_I h x0 1).toNatClampNeg) (vp_nar .byte y5)) x0 1 y9) (pw_sI (pw_aI K0 rfl k7 (by decide) (by decide)) (pkI rfl) k2 (by decide))  hi
set_option maxHeartbeats 4000000 in
set_option maxRecDepth 100000 in
theorem wfX16_puts {h0 h : pm_H} (K0 : pw_F WX16_puts h0 h) {a0 : Nat} {p1 : Int32}  {r : pm_H} (hf : fX16_puts h a0 p1 = some r) : pw_F WX16_puts h0 r := by
  unfold fX16_puts at hf
  obtain ⟨n, hn⟩ := pm_lim_iter hf
  exact (wlX16_puts n) a0 p1 24 h K0  hn
abbrev WX16_sets : List Nat := [4224]
set_option maxHeartbeats 4000000 in
set_option maxRecDepth 100000 in
theorem wfX16_sets {h0 h : pm_H} (K0 : pw_F WX16_sets h0 h) {a0 : Nat} {p1 : Int32} {p2 : Int64} {p3 : Int32}  {r : pm_H} (hf : fX16_sets h a0 p1 p2 p3 = some r) : pw_F WX16_sets h0 r := by
  unfold fX16_sets at hf
  obtain ⟨k1, hf⟩ := pm_if hf
  obtain ⟨v2, e3, hf⟩ := pm_bd hf
  obtain ⟨v4, e5, hf⟩ := pm_bd hf
  obtain ⟨k6, hf⟩ := pm_if hf
  obtain ⟨u7, hf⟩ := pm_if hf
  cases hf
  exact (pw_aI K0 rfl k6 (by decide) (by decide))
abbrev WX16_signedWord : List Nat := [2067]
set_option maxHeartbeats 4000000 in
set_option maxRecDepth 100000 in
theorem wlX16_signedWord {h0 : pm_H} {r : (Int64 × pm_H)} : ∀ n : Nat, (∀ (x0 : Nat) (x1 : Int64) (x3 : Int32) (x4 : Int32) (h : pm_H), pw_F WX16_signedWord h0 h → pm_iter sX16_signedWord n (x0, x1, x3, x4, h) = some r → pw_F WX16_signedWord h0 r.2) := by
  intro n
  induction n with
  | zero => exact fun _ _ _ _ _ _ hf => (by cases hf)
  | succ n ih =>
    refine fun x0 x1 x3 x4 h K0 hf => ?_
    obtain ⟨y, hf, hi⟩ := pm_iter_s hf
    have hf : tX16_signedWord_9 x0 x1 x3 x4 h = some y := hf
    unfold tX16_signedWord_9 at hf
    by_cases c1 : x4 ≤ 127
    · have hf := pm_it hf c1
      by_cases c2 : 64 ≤ x3
      · have hf := pm_it hf c2
        cases hf
        cases hi
        exact K0
      · have hf := pm_ie hf c2
        by_cases c3 : (x4 &&& 64) = 0
        · have hf := pm_it hf c3
          cases hf
          cases hi
          exact K0
        · have hf := pm_ie hf c3
          cases hf
          cases hi
          exact K0
    · have hf := pm_ie hf c1
      obtain ⟨k4, hf⟩ := pm_if hf
      obtain ⟨v5, e6, hf⟩ := pm_bd hf
      obtain ⟨k7, hf⟩ := pm_if hf
      obtain ⟨v8, e9, hf⟩ := pm_bd hf
      obtain ⟨y10, e11, hf⟩ := pm_lt hf
      obtain ⟨y12, e13, hf⟩ := pm_lt hf
      obtain ⟨y14, e15, hf⟩ := pm_lt hf
      cases hf
      exact ih x0 y10 y12 v8 (pm_setI h x0 19 y14) (pw_sI K0 rfl k4 (by decide))  hi
set_option maxHeartbeats 4000000 in
set_option maxRecDepth 100000 in
theorem wfX16_signedWord {h0 h : pm_H} (K0 : pw_F WX16_signedWord h0 h) {a0 : Nat}  {r : (Int64 × pm_H)} (hf : fX16_signedWord h a0 = some r) : pw_F WX16_signedWord h0 r.2 := by
  unfold fX16_signedWord at hf
  obtain ⟨n, hn⟩ := pm_lim_iter hf
  exact (wlX16_signedWord n) a0 0 0 128 h K0  hn
abbrev WX16_tablesStep : List Nat := [2095, 2124, 2125, 2141, 4352, 4480]
set_option maxHeartbeats 4000000 in
set_option maxRecDepth 100000 in
theorem wlX16_tablesStep {h0 : pm_H} {r : pm_H} : ∀ n : Nat, (∀ (x0 : Nat) (x1 : Int32) (x2 : Int32) (x3 : Int32) (s0 : Int32) (s1 : Int32) (s2 : Nat) (h : pm_H), pw_F WX16_tablesStep h0 h → pm_iter sX16_tablesStep n (.inl (x0, x1, x2, x3, s0, s1, s2, h)) = some r → pw_F WX16_tablesStep h0 r) ∧ (∀ (x0 : Nat) (x1 : Int32) (x4 : Int32) (x5 : Int64) (x7 : Int64) (x9 : Int64) (x11 : Int32) (x12 : Int32) (x13 : Int64) (h : pm_H), pw_F WX16_tablesStep h0 h → pm_iter sX16_tablesStep n (.inr (.inl (x0, x1, x4, x5, x7, x9, x11, x12, x13, h))) = some r → pw_F WX16_tablesStep h0 r) ∧ (∀ (x0 : Nat) (x4 : Int32) (x5 : Int64) (x7 : Int64) (s0 : Int64) (h : pm_H), pw_F WX16_tablesStep h0 h → pm_iter sX16_tablesStep n (.inr (.inr (.inl (x0, x4, x5, x7, s0, h)))) = some r → pw_F WX16_tablesStep h0 r) ∧ (∀ (x0 : Nat) (x1 : Int32) (x4 : Int32) (x5 : Int64) (x7 : Int64) (x9 : Int64) (x11 : Int32) (x12 : Int32) (x13 : Int64) (h : pm_H), pw_F WX16_tablesStep h0 h → pm_iter sX16_tablesStep n (.inr (.inr (.inr (.inl (x0, x1, x4, x5, x7, x9, x11, x12, x13, h))))) = some r → pw_F WX16_tablesStep h0 r) ∧ (∀ (x0 : Nat) (x1 : Int32) (x4 : Int32) (x5 : Int64) (x7 : Int64) (x9 : Int64) (x11 : Int32) (x12 : Int32) (x13 : Int64) (s0 : Int64) (h : pm_H), pw_F WX16_tablesStep h0 h → pm_iter sX16_tablesStep n (.inr (.inr (.inr (.inr (.inl (x0, x1, x4, x5, x7, x9, x11, x12, x13, s0, h)))))) = some r → pw_F WX16_tablesStep h0 r) ∧ (∀ (x0 : Nat) (x4 : Int32) (x5 : Int64) (x7 : Int64) (h : pm_H), pw_F WX16_tablesStep h0 h → pm_iter sX16_tablesStep n (.inr (.inr (.inr (.inr (.inr (x0, x4, x5, x7, h)))))) = some r → pw_F WX16_tablesStep h0 r) := by
  intro n
  induction n with
  | zero => exact ⟨fun _ _ _ _ _ _ _ _ _ hf => (by cases hf), fun _ _ _ _ _ _ _ _ _ _ _ hf => (by cases hf), fun _ _ _ _ _ _ _ hf => (by cases hf), fun _ _ _ _ _ _ _ _ _ _ _ hf => (by cases hf), fun _ _ _ _ _ _ _ _ _ _ _ _ hf => (by cases hf), fun _ _ _ _ _ _ hf => (by cases hf)⟩
  | succ n ih =>
    refine ⟨fun x0 x1 x2 x3 s0 s1 s2 h K0 hf => ?_, ?_⟩
    · obtain ⟨y, hf, hi⟩ := pm_iter_s hf
      have hf : tX16_tablesStep_23 x0 x1 x2 x3 s0 s1 s2 h = some y := hf
      unfold tX16_tablesStep_23 at hf
      obtain ⟨y5, e6, hf⟩ := pm_lt hf
      obtain ⟨k7, hf⟩ := pm_if hf
      obtain ⟨u8, hf⟩ := pm_if hf
      obtain ⟨y9, e10, hf⟩ := pm_lt hf
      by_cases c11 : x1 = 16
      · have hf := pm_it hf c11
        obtain ⟨k12, hf⟩ := pm_if hf
        obtain ⟨v13, e14, hf⟩ := pm_bd hf
        obtain ⟨k15, hf⟩ := pm_if hf
        obtain ⟨u16, hf⟩ := pm_if hf
        obtain ⟨v17, e18, hf⟩ := pm_bd hf
        have K19 := pw_t (by decide) K0 (wfX16_push (pw_rf _) e18)
        cases hf
        cases hi
        exact K19
      · have hf := pm_ie hf c11
        obtain ⟨k20, hf⟩ := pm_if hf
        obtain ⟨v21, e22, hf⟩ := pm_bd hf
        have K23 := pw_t (by decide) K0 (wfX16_pop (pw_rf _) e22)
        obtain ⟨k24, hf⟩ := pm_if hf
        obtain ⟨v25, e26, hf⟩ := pm_bd hf
        have K27 := pw_t (by decide) K23 (wfX16_pop (pw_rf _) e26)
        by_cases c28 : x1 = 15
        · have hf := pm_it hf c28
          obtain ⟨k29, hf⟩ := pm_if hf
          obtain ⟨v30, e31, hf⟩ := pm_bd hf
          obtain ⟨k32, hf⟩ := pm_if hf
          obtain ⟨u33, hf⟩ := pm_if hf
          by_cases c34 : 0 ≤ (pm_L v25.2 v30 y9.toNatClampNeg)
          · have hf := pm_it hf c34
            obtain ⟨u35, hf⟩ := pm_if hf
            cases hf
            exact ih.2.2.1 x0 y9 v21.1 v25.1 (pm_L v25.2 v30 y9.toNatClampNeg) v25.2 K27  hi
          · have hf := pm_ie hf c34
            cases hf
            exact ih.2.2.1 x0 y9 v21.1 v25.1 4294967295 v25.2 K27  hi
        · have hf := pm_ie hf c28
          obtain ⟨k36, hf⟩ := pm_if hf
          obtain ⟨v37, e38, hf⟩ := pm_bd hf
          have K39 := pw_t (by decide) K27 (wfX16_pop (pw_rf _) e38)
          by_cases c40 : x1 = 12
          · have hf := pm_it hf c40
            obtain ⟨k41, hf⟩ := pm_if hf
            obtain ⟨v42, e43, hf⟩ := pm_bd hf
            have K44 := pw_t (by decide) K39 (wfX16_copiesElement (pw_rf _) e43)
            by_cases c45 : v42.1 = 0
            · have hf := pm_it hf c45
              obtain ⟨k46, hf⟩ := pm_if hf
              obtain ⟨v47, e48, hf⟩ := pm_bd hf
              have K49 := pw_t (by decide) K44 (wfX16_endsBy (pw_rf _) e48)
              cases hf
              cases hi
              exact K49
            · have hf := pm_ie hf c45
              obtain ⟨k50, hf⟩ := pm_if hf
              obtain ⟨v51, e52, hf⟩ := pm_bd hf
              have K53 := pw_t (by decide) K44 (wfX16_endsBy (pw_rf _) e52)
              cases hf
              cases hi
              exact K53
          · have hf := pm_ie hf c40
            obtain ⟨k54, hf⟩ := pm_if hf
            obtain ⟨v55, e56, hf⟩ := pm_bd hf
            obtain ⟨y57, e58, hf⟩ := pm_lt hf
            obtain ⟨k59, hf⟩ := pm_if hf
            obtain ⟨u60, hf⟩ := pm_if hf
            obtain ⟨y61, e62, hf⟩ := pm_lt hf
            obtain ⟨v63, e64, hf⟩ := pm_bd hf
            obtain ⟨k65, hf⟩ := pm_if hf
            obtain ⟨u66, hf⟩ := pm_if hf
            by_cases c67 : ((pm_I v37.2 v63 y9.toNatClampNeg).toInt64) < (v37.1 + v21.1)
            · have hf := pm_it hf c67
              obtain ⟨v68, e69, hf⟩ := pm_bd hf
              have K70 := pw_t (by decide) K39 (wfX16_endsBy (pw_rf _) e69)
              cases hf
              exact ih.2.1 x0 x1 y9 v21.1 v25.1 v37.1 y61 1 0 v68 K70  hi
            · have hf := pm_ie hf c67
              by_cases c71 : x1 = 14
              · have hf := pm_it hf c71
                obtain ⟨u72, hf⟩ := pm_if hf
                by_cases c73 : (v25.1 + v21.1) ≤ ((pm_I v37.2 v63 y61.toNatClampNeg).toInt64)
                · have hf := pm_it hf c73
                  obtain ⟨v74, e75, hf⟩ := pm_bd hf
                  have K76 := pw_t (by decide) K39 (wfX16_endsBy (pw_rf _) e75)
                  cases hf
                  exact ih.2.1 x0 x1 y9 v21.1 v25.1 v37.1 y61 0 0 v74 K76  hi
                · have hf := pm_ie hf c73
                  obtain ⟨v77, e78, hf⟩ := pm_bd hf
                  have K79 := pw_t (by decide) K39 (wfX16_endsBy (pw_rf _) e78)
                  cases hf
                  exact ih.2.1 x0 x1 y9 v21.1 v25.1 v37.1 y61 1 0 v77 K79  hi
              · have hf := pm_ie hf c71
                obtain ⟨v80, e81, hf⟩ := pm_bd hf
                have K82 := pw_t (by decide) K39 (wfX16_endsBy (pw_rf _) e81)
                cases hf
                exact ih.2.1 x0 x1 y9 v21.1 v25.1 v37.1 y61 0 0 v80 K82  hi
    refine ⟨fun x0 x1 x4 x5 x7 x9 x11 x12 x13 h K0 hf => ?_, ?_⟩
    · obtain ⟨y, hf, hi⟩ := pm_iter_s hf
      have hf : tX16_tablesStep_286 x0 x1 x4 x5 x7 x9 x11 x12 x13 h = some y := hf
      unfold tX16_tablesStep_286 at hf
      by_cases c108 : x5 ≤ x13
      · have hf := pm_it hf c108
        cases hf
        cases hi
        exact K0
      · have hf := pm_ie hf c108
        by_cases c109 : x12 = 0
        · have hf := pm_it hf c109
          by_cases c110 : x1 = 14
          · have hf := pm_it hf c110
            by_cases c111 : x9 ≤ x7
            · have hf := pm_it hf c111
              cases hf
              exact ih.2.2.2.1 x0 x1 x4 x5 x7 x9 x11 x12 x13 h K0  hi
            · have hf := pm_ie hf c111
              cases hf
              exact ih.2.2.2.2.1 x0 x1 x4 x5 x7 x9 x11 x12 x13 ((x5 - 1) - x13) h K0  hi
          · have hf := pm_ie hf c110
            cases hf
            exact ih.2.2.2.1 x0 x1 x4 x5 x7 x9 x11 x12 x13 h K0  hi
        · have hf := pm_ie hf c109
          cases hf
          cases hi
          exact K0
    refine ⟨fun x0 x4 x5 x7 s0 h K0 hf => ?_, ?_⟩
    · obtain ⟨y, hf, hi⟩ := pm_iter_s hf
      have hf : tX16_tablesStep_89 x0 x4 x5 x7 s0 h = some y := hf
      unfold tX16_tablesStep_89 at hf
      obtain ⟨k83, hf⟩ := pm_if hf
      obtain ⟨v84, e85, hf⟩ := pm_bd hf
      obtain ⟨k86, hf⟩ := pm_if hf
      obtain ⟨u87, hf⟩ := pm_if hf
      by_cases c88 : s0 < (((pm_I h v84 x4.toNatClampNeg).toInt64) + x5)
      · have hf := pm_it hf c88
        cases hf
        exact ih.2.2.2.2.2 x0 x4 x5 x7 h K0  hi
      · have hf := pm_ie hf c88
        by_cases c89 : ((pm_I h x0 47).toInt64) < x5
        · have hf := pm_it hf c89
          cases hf
          exact ih.2.2.2.2.2 x0 x4 x5 x7 h K0  hi
        · have hf := pm_ie hf c89
          by_cases c90 : (1 : Int32) = (0 : Int32)
          · have hf := pm_it hf c90
            obtain ⟨v91, e92, hf⟩ := pm_bd hf
            have K93 := pw_t (by decide) K0 (wfX16_push (pw_rf _) e92)
            by_cases c94 : (1 : Int32) = (0 : Int32)
            · have hf := pm_it hf c94
              cases hf
              cases hi
              exact K93
            · have hf := pm_ie hf c94
              obtain ⟨k95, hf⟩ := pm_if hf
              obtain ⟨v96, e97, hf⟩ := pm_bd hf
              have K98 := pw_t (by decide) K93 (wfX16_grows (pw_rf _) e97)
              cases hf
              cases hi
              exact K98
          · have hf := pm_ie hf c90
            obtain ⟨u99, hf⟩ := pm_if hf
            obtain ⟨v100, e101, hf⟩ := pm_bd hf
            have K102 := pw_t (by decide) K0 (wfX16_push (pw_rf _) e101)
            by_cases c103 : (1 : Int32) = (0 : Int32)
            · have hf := pm_it hf c103
              cases hf
              cases hi
              exact K102
            · have hf := pm_ie hf c103
              obtain ⟨k104, hf⟩ := pm_if hf
              obtain ⟨v105, e106, hf⟩ := pm_bd hf
              have K107 := pw_t (by decide) K102 (wfX16_grows (pw_rf _) e106)
              cases hf
              cases hi
              exact K107
    refine ⟨fun x0 x1 x4 x5 x7 x9 x11 x12 x13 h K0 hf => ?_, ?_⟩
    · obtain ⟨y, hf, hi⟩ := pm_iter_s hf
      have hf : tX16_tablesStep_323 x0 x1 x4 x5 x7 x9 x11 x12 x13 h = some y := hf
      unfold tX16_tablesStep_323 at hf
      cases hf
      exact ih.2.2.2.2.1 x0 x1 x4 x5 x7 x9 x11 x12 x13 x13 h K0  hi
    refine ⟨fun x0 x1 x4 x5 x7 x9 x11 x12 x13 s0 h K0 hf => ?_, ?_⟩
    · obtain ⟨y, hf, hi⟩ := pm_iter_s hf
      have hf : tX16_tablesStep_325 x0 x1 x4 x5 x7 x9 x11 x12 x13 s0 h = some y := hf
      unfold tX16_tablesStep_325 at hf
      obtain ⟨k135, hf⟩ := pm_if hf
      obtain ⟨v136, e137, hf⟩ := pm_bd hf
      by_cases c138 : x1 = 17
      · have hf := pm_it hf c138
        obtain ⟨k139, hf⟩ := pm_if hf
        obtain ⟨u140, hf⟩ := pm_if hf
        obtain ⟨y141, e142, hf⟩ := pm_lt hf
        cases hf
        exact ih.2.1 x0 x1 x4 x5 x7 x9 x11 x12 y141 (pm_setI h v136 ((((1024 * x4) + x9.toInt32) + s0.toInt32).toNatClampNeg) x7.toInt32) (pw_aI K0 rfl k139 (by decide) (by decide))  hi
      · have hf := pm_ie hf c138
        obtain ⟨y143, e144, hf⟩ := pm_lt hf
        obtain ⟨k145, hf⟩ := pm_if hf
        obtain ⟨u146, hf⟩ := pm_if hf
        obtain ⟨y147, e148, hf⟩ := pm_lt hf
        obtain ⟨u149, hf⟩ := pm_if hf
        obtain ⟨y150, e151, hf⟩ := pm_lt hf
        cases hf
        exact ih.2.1 x0 x1 x4 x5 x7 x9 x11 x12 y150 (pm_setI h v136 ((((1024 * x4) + x9.toInt32) + s0.toInt32).toNatClampNeg) y147) (pw_aI K0 rfl k145 (by decide) (by decide))  hi
    refine fun x0 x4 x5 x7 h K0 hf => ?_
    obtain ⟨y, hf, hi⟩ := pm_iter_s hf
    have hf : tX16_tablesStep_123 x0 x4 x5 x7 h = some y := hf
    unfold tX16_tablesStep_123 at hf
    by_cases c112 : (0 : Int32) = (0 : Int32)
    · have hf := pm_it hf c112
      obtain ⟨k113, hf⟩ := pm_if hf
      obtain ⟨v114, e115, hf⟩ := pm_bd hf
      have K116 := pw_t (by decide) K0 (wfX16_push (pw_rf _) e115)
      by_cases c117 : (0 : Int32) = (0 : Int32)
      · have hf := pm_it hf c117
        cases hf
        cases hi
        exact K116
      · have hf := pm_ie hf c117
        obtain ⟨k118, hf⟩ := pm_if hf
        obtain ⟨v119, e120, hf⟩ := pm_bd hf
        have K121 := pw_t (by decide) K116 (wfX16_grows (pw_rf _) e120)
        cases hf
        cases hi
        exact K121
    · have hf := pm_ie hf c112
      obtain ⟨k122, hf⟩ := pm_if hf
      obtain ⟨v123, e124, hf⟩ := pm_bd hf
      obtain ⟨k125, hf⟩ := pm_if hf
      obtain ⟨u126, hf⟩ := pm_if hf
      obtain ⟨v127, e128, hf⟩ := pm_bd hf
      have K129 := pw_t (by decide) K0 (wfX16_push (pw_rf _) e128)
      by_cases c130 : (0 : Int32) = (0 : Int32)
      · have hf := pm_it hf c130
        cases hf
        cases hi
        exact K129
      · have hf := pm_ie hf c130
        obtain ⟨k131, hf⟩ := pm_if hf
        obtain ⟨v132, e133, hf⟩ := pm_bd hf
        have K134 := pw_t (by decide) K129 (wfX16_grows (pw_rf _) e133)
        cases hf
        cases hi
        exact K134
set_option maxHeartbeats 4000000 in
set_option maxRecDepth 100000 in
theorem wfX16_tablesStep {h0 h : pm_H} (K0 : pw_F WX16_tablesStep h0 h) {a0 : Nat} {p1 : Int32} {p2 : Int32} {p3 : Int32}  {r : pm_H} (hf : fX16_tablesStep h a0 p1 p2 p3 = some r) : pw_F WX16_tablesStep h0 r := by
  unfold fX16_tablesStep at hf
  obtain ⟨k1, hf⟩ := pm_if hf
  obtain ⟨v2, e3, hf⟩ := pm_bd hf
  by_cases c4 : p1 = 12
  · have hf := pm_it hf c4
    obtain ⟨n, hn⟩ := pm_lim_iter hf
    exact (wlX16_tablesStep n).1 a0 p1 p2 p3 p3 (128 * (pm_I h a0 95)) v2 h K0  hn
  · have hf := pm_ie hf c4
    obtain ⟨n, hn⟩ := pm_lim_iter hf
    exact (wlX16_tablesStep n).1 a0 p1 p2 p3 p2 (128 * (pm_I h a0 95)) v2 h K0  hn
abbrev WX16_tier : List Nat := [2092]
set_option maxHeartbeats 4000000 in
set_option maxRecDepth 100000 in
theorem wfX16_tier {h0 h : pm_H} (K0 : pw_F WX16_tier h0 h) {a0 : Nat} {p1 : Int32}  {r : (Int32 × pm_H)} (hf : fX16_tier h a0 p1 = some r) : pw_F WX16_tier h0 r.2 := by
  unfold fX16_tier at hf
  by_cases c1 : 0 ≤ p1
  · have hf := pm_it hf c1
    obtain ⟨k2, hf⟩ := pm_if hf
    obtain ⟨y3, e4, hf⟩ := pm_lt hf
    cases hf
    exact (pw_sI K0 rfl k2 (by decide))
  · have hf := pm_ie hf c1
    cases hf
    exact K0
abbrev WX16_traps : List Nat := [2081]
set_option maxHeartbeats 4000000 in
set_option maxRecDepth 100000 in
theorem wfX16_traps {h0 h : pm_H} (K0 : pw_F WX16_traps h0 h) {a0 : Nat} {p1 : Int32}  {r : pm_H} (hf : fX16_traps h a0 p1 = some r) : pw_F WX16_traps h0 r := by
  unfold fX16_traps at hf
  obtain ⟨k1, hf⟩ := pm_if hf
  cases hf
  exact (pw_sI K0 rfl k1 (by decide))
abbrev WX16_word : List Nat := [2067]
set_option maxHeartbeats 4000000 in
set_option maxRecDepth 100000 in
theorem wlX16_word {h0 : pm_H} {r : (Int64 × pm_H)} : ∀ n : Nat, (∀ (x0 : Nat) (x1 : Int64) (x3 : Int32) (x4 : Int32) (h : pm_H), pw_F WX16_word h0 h → pm_iter sX16_word n (x0, x1, x3, x4, h) = some r → pw_F WX16_word h0 r.2) := by
  intro n
  induction n with
  | zero => exact fun _ _ _ _ _ _ hf => (by cases hf)
  | succ n ih =>
    refine fun x0 x1 x3 x4 h K0 hf => ?_
    obtain ⟨y, hf, hi⟩ := pm_iter_s hf
    have hf : tX16_word_9 x0 x1 x3 x4 h = some y := hf
    unfold tX16_word_9 at hf
    by_cases c1 : x4 ≤ 127
    · have hf := pm_it hf c1
      cases hf
      cases hi
      exact K0
    · have hf := pm_ie hf c1
      obtain ⟨k2, hf⟩ := pm_if hf
      obtain ⟨v3, e4, hf⟩ := pm_bd hf
      obtain ⟨k5, hf⟩ := pm_if hf
      obtain ⟨v6, e7, hf⟩ := pm_bd hf
      obtain ⟨y8, e9, hf⟩ := pm_lt hf
      obtain ⟨y10, e11, hf⟩ := pm_lt hf
      obtain ⟨y12, e13, hf⟩ := pm_lt hf
      cases hf
      exact ih x0 y8 y10 v6 (pm_setI h x0 19 y12) (pw_sI K0 rfl k2 (by decide))  hi
set_option maxHeartbeats 4000000 in
set_option maxRecDepth 100000 in
theorem wfX16_word {h0 h : pm_H} (K0 : pw_F WX16_word h0 h) {a0 : Nat}  {r : (Int64 × pm_H)} (hf : fX16_word h a0 = some r) : pw_F WX16_word h0 r.2 := by
  unfold fX16_word at hf
  obtain ⟨n, hn⟩ := pm_lim_iter hf
  exact (wlX16_word n) a0 0 0 128 h K0  hn
abbrev WX0_aim : List Nat := [4352]
set_option maxHeartbeats 4000000 in
set_option maxRecDepth 100000 in
theorem wfX0_aim {h0 h : pm_H} (K0 : pw_F WX0_aim h0 h) {a0 : Nat} {p1 : Int32} {p2 : Int32}  {r : pm_H} (hf : fX0_aim h a0 p1 p2 = some r) : pw_F WX0_aim h0 r := by
  unfold fX0_aim at hf
  obtain ⟨k1, hf⟩ := pm_if hf
  obtain ⟨v2, e3, hf⟩ := pm_bd hf
  obtain ⟨v4, e5, hf⟩ := pm_bd hf
  have K6 := pw_t (by decide) K0 (wfX12_setItem (pw_rf _) e5)
  cases hf
  exact K6
abbrev WX1_aimCondition : List Nat := [4352]
set_option maxHeartbeats 4000000 in
set_option maxRecDepth 100000 in
theorem wfX1_aimCondition {h0 h : pm_H} (K0 : pw_F WX1_aimCondition h0 h) {a0 : Nat} {p1 : Int32}  {r : pm_H} (hf : fX1_aimCondition h a0 p1 = some r) : pw_F WX1_aimCondition h0 r := by
  unfold fX1_aimCondition at hf
  obtain ⟨k1, hf⟩ := pm_if hf
  obtain ⟨v2, e3, hf⟩ := pm_bd hf
  obtain ⟨v4, e5, hf⟩ := pm_bd hf
  by_cases c6 : v4 = 4
  · have hf := pm_it hf c6
    by_cases c7 : v2 < 0
    · have hf := pm_it hf c7
      cases hf
      exact K0
    · have hf := pm_ie hf c7
      obtain ⟨v8, e9, hf⟩ := pm_bd hf
      obtain ⟨k10, hf⟩ := pm_if hf
      obtain ⟨v11, e12, hf⟩ := pm_bd hf
      have K13 := pw_t (by decide) K0 (wfX0_aim (pw_rf _) e12)
      cases hf
      exact K13
  · have hf := pm_ie hf c6
    cases hf
    exact K0
abbrev WX1_failSection : List Nat := [128, 129]
set_option maxHeartbeats 4000000 in
set_option maxRecDepth 100000 in
theorem wfX1_failSection {h0 h : pm_H} (K0 : pw_F WX1_failSection h0 h) {a0 : Nat} {p1 : Int32} {p2 : Int32}  {r : pm_H} (hf : fX1_failSection h a0 p1 p2 = some r) : pw_F WX1_failSection h0 r := by
  unfold fX1_failSection at hf
  obtain ⟨k1, hf⟩ := pm_if hf
  obtain ⟨v2, e3, hf⟩ := pm_bd hf
  obtain ⟨k4, hf⟩ := pm_if hf
  obtain ⟨v5, e6, hf⟩ := pm_bd hf
  obtain ⟨v7, e8, hf⟩ := pm_bd hf
  obtain ⟨v9, e10, hf⟩ := pm_bd hf
  have K11 := pw_t (by decide) K0 (wfX1_failAt (pw_rf _) e10)
  cases hf
  exact K11
abbrev WX1_put : List Nat := [128, 129, 134, 4352]
set_option maxHeartbeats 4000000 in
set_option maxRecDepth 100000 in
theorem wfX1_put {h0 h : pm_H} (K0 : pw_F WX1_put h0 h) {a0 : Nat} {p1 : Int32}  {r : pm_H} (hf : fX1_put h a0 p1 = some r) : pw_F WX1_put h0 r := by
  unfold fX1_put at hf
  obtain ⟨k1, hf⟩ := pm_if hf
  by_cases c2 : (pm_I h a0 6) < 1000
  · have hf := pm_it hf c2
    obtain ⟨v3, e4, hf⟩ := pm_bd hf
    obtain ⟨v5, e6, hf⟩ := pm_bd hf
    have K7 := pw_t (by decide) K0 (wfX12_setItem (pw_rf _) e6)
    obtain ⟨k8, hf⟩ := pm_if hf
    obtain ⟨y9, e10, hf⟩ := pm_lt hf
    cases hf
    exact (pw_sI K7 rfl k8 (by decide))
  · have hf := pm_ie hf c2
    obtain ⟨v11, e12, hf⟩ := pm_bd hf
    have K13 := pw_t (by decide) K0 (wfX1_fail (pw_rf _) e12)
    cases hf
    exact K13
abbrev WX1_putTypes : List Nat := [128, 129, 134, 4352]
set_option maxHeartbeats 4000000 in
set_option maxRecDepth 100000 in
theorem wlX1_putTypes {h0 : pm_H} {r : pm_H} : ∀ n : Nat, (∀ (x0 : Nat) (x1 : Nat) (x2 : Int32) (x3 : Int32) (x4 : Int32) (h : pm_H), pw_F WX1_putTypes h0 h → pm_iter sX1_putTypes n (x0, x1, x2, x3, x4, h) = some r → pw_F WX1_putTypes h0 r) := by
  intro n
  induction n with
  | zero => exact fun _ _ _ _ _ _ _ hf => (by cases hf)
  | succ n ih =>
    refine fun x0 x1 x2 x3 x4 h K0 hf => ?_
    obtain ⟨y, hf, hi⟩ := pm_iter_s hf
    have hf : tX1_putTypes_3 x0 x1 x2 x3 x4 h = some y := hf
    unfold tX1_putTypes_3 at hf
    by_cases c1 : x3 ≤ x4
    · have hf := pm_it hf c1
      cases hf
      cases hi
      exact K0
    · have hf := pm_ie hf c1
      obtain ⟨v2, e3, hf⟩ := pm_bd hf
      obtain ⟨k4, hf⟩ := pm_if hf
      obtain ⟨v5, e6, hf⟩ := pm_bd hf
      have K7 := pw_t (by decide) K0 (wfX1_put (pw_rf _) e6)
      obtain ⟨y8, e9, hf⟩ := pm_lt hf
      cases hf
      exact ih x0 x1 x2 x3 y8 v5 K7  hi
set_option maxHeartbeats 4000000 in
set_option maxRecDepth 100000 in
theorem wfX1_putTypes {h0 h : pm_H} (K0 : pw_F WX1_putTypes h0 h) {a0 : Nat} {p1 : Nat} {p2 : Int32} {p3 : Int32}  {r : pm_H} (hf : fX1_putTypes h a0 p1 p2 p3 = some r) : pw_F WX1_putTypes h0 r := by
  unfold fX1_putTypes at hf
  obtain ⟨n, hn⟩ := pm_lim_iter hf
  exact (wlX1_putTypes n) a0 p1 p2 p3 0 h K0  hn
abbrev WX1_setLabel : List Nat := [4352]
set_option maxHeartbeats 4000000 in
set_option maxRecDepth 100000 in
theorem wfX1_setLabel {h0 h : pm_H} (K0 : pw_F WX1_setLabel h0 h) {a0 : Nat} {p1 : Int32} {p2 : Int32} {p3 : Int32}  {r : pm_H} (hf : fX1_setLabel h a0 p1 p2 p3 = some r) : pw_F WX1_setLabel h0 r := by
  unfold fX1_setLabel at hf
  obtain ⟨k1, hf⟩ := pm_if hf
  obtain ⟨v2, e3, hf⟩ := pm_bd hf
  obtain ⟨v4, e5, hf⟩ := pm_bd hf
  have K6 := pw_t (by decide) K0 (wfX12_setItem (pw_rf _) e5)
  cases hf
  exact K6
abbrev WX1_take : List Nat := [128, 129, 134]
set_option maxHeartbeats 4000000 in
set_option maxRecDepth 100000 in
theorem wfX1_take {h0 h : pm_H} (K0 : pw_F WX1_take h0 h) {a0 : Nat} {p1 : Int32}  {r : (Int32 × pm_H)} (hf : fX1_take h a0 p1 = some r) : pw_F WX1_take h0 r.2 := by
  unfold fX1_take at hf
  obtain ⟨k1, hf⟩ := pm_if hf
  obtain ⟨y2, e3, hf⟩ := pm_lt hf
  obtain ⟨v4, e5, hf⟩ := pm_bd hf
  by_cases c6 : v4 < (pm_I h a0 6)
  · have hf := pm_it hf c6
    obtain ⟨y7, e8, hf⟩ := pm_lt hf
    obtain ⟨v9, e10, hf⟩ := pm_bd hf
    obtain ⟨v11, e12, hf⟩ := pm_bd hf
    by_cases c13 : v11 = 0
    · have hf := pm_it hf c13
      cases hf
      exact (pw_sI K0 rfl k1 (by decide))
    · have hf := pm_ie hf c13
      by_cases c14 : p1 = 0
      · have hf := pm_it hf c14
        cases hf
        exact (pw_sI K0 rfl k1 (by decide))
      · have hf := pm_ie hf c14
        by_cases c15 : v11 = p1
        · have hf := pm_it hf c15
          cases hf
          exact (pw_sI K0 rfl k1 (by decide))
        · have hf := pm_ie hf c15
          obtain ⟨v16, e17, hf⟩ := pm_bd hf
          have K18 := pw_t (by decide) (pw_sI K0 rfl k1 (by decide)) (wfX1_fail (pw_rf _) e17)
          cases hf
          exact K18
  · have hf := pm_ie hf c6
    obtain ⟨v19, e20, hf⟩ := pm_bd hf
    by_cases c21 : v19 = 0
    · have hf := pm_it hf c21
      obtain ⟨v22, e23, hf⟩ := pm_bd hf
      have K24 := pw_t (by decide) K0 (wfX1_fail (pw_rf _) e23)
      cases hf
      exact K24
    · have hf := pm_ie hf c21
      cases hf
      exact K0
abbrev WX1_takeTypes : List Nat := [128, 129, 134]
set_option maxHeartbeats 4000000 in
set_option maxRecDepth 100000 in
theorem wlX1_takeTypes {h0 : pm_H} {r : pm_H} : ∀ n : Nat, (∀ (x0 : Nat) (x1 : Nat) (x2 : Int32) (x4 : Int32) (h : pm_H), pw_F WX1_takeTypes h0 h → pm_iter sX1_takeTypes n (x0, x1, x2, x4, h) = some r → pw_F WX1_takeTypes h0 r) := by
  intro n
  induction n with
  | zero => exact fun _ _ _ _ _ _ hf => (by cases hf)
  | succ n ih =>
    refine fun x0 x1 x2 x4 h K0 hf => ?_
    obtain ⟨y, hf, hi⟩ := pm_iter_s hf
    have hf : tX1_takeTypes_5 x0 x1 x2 x4 h = some y := hf
    unfold tX1_takeTypes_5 at hf
    by_cases c3 : x4 < 0
    · have hf := pm_it hf c3
      cases hf
      cases hi
      exact K0
    · have hf := pm_ie hf c3
      obtain ⟨v4, e5, hf⟩ := pm_bd hf
      obtain ⟨k6, hf⟩ := pm_if hf
      obtain ⟨v7, e8, hf⟩ := pm_bd hf
      have K9 := pw_t (by decide) K0 (wfX1_take (pw_rf _) e8)
      obtain ⟨y10, e11, hf⟩ := pm_lt hf
      cases hf
      exact ih x0 x1 x2 y10 v7.2 K9  hi
set_option maxHeartbeats 4000000 in
set_option maxRecDepth 100000 in
theorem wfX1_takeTypes {h0 h : pm_H} (K0 : pw_F WX1_takeTypes h0 h) {a0 : Nat} {p1 : Nat} {p2 : Int32} {p3 : Int32}  {r : pm_H} (hf : fX1_takeTypes h a0 p1 p2 p3 = some r) : pw_F WX1_takeTypes h0 r := by
  unfold fX1_takeTypes at hf
  obtain ⟨y1, e2, hf⟩ := pm_lt hf
  obtain ⟨n, hn⟩ := pm_lim_iter hf
  exact (wlX1_takeTypes n) a0 p1 p2 y1 h K0  hn
abbrev WX2_aimBranches : List Nat := [4352]
set_option maxHeartbeats 4000000 in
set_option maxRecDepth 100000 in
theorem wlX2_aimBranches {h0 : pm_H} {r : pm_H} : ∀ n : Nat, (∀ (x0 : Nat) (x1 : Int32) (h : pm_H), pw_F WX2_aimBranches h0 h → pm_iter sX2_aimBranches n (x0, x1, h) = some r → pw_F WX2_aimBranches h0 r) := by
  intro n
  induction n with
  | zero => exact fun _ _ _ _ hf => (by cases hf)
  | succ n ih =>
    refine fun x0 x1 h K0 hf => ?_
    obtain ⟨y, hf, hi⟩ := pm_iter_s hf
    have hf : tX2_aimBranches_2 x0 x1 h = some y := hf
    unfold tX2_aimBranches_2 at hf
    obtain ⟨k1, hf⟩ := pm_if hf
    by_cases c2 : ((pm_I h x0 4) * 8) ≤ x1
    · have hf := pm_it hf c2
      cases hf
      cases hi
      exact K0
    · have hf := pm_ie hf c2
      obtain ⟨v3, e4, hf⟩ := pm_bd hf
      obtain ⟨v5, e6, hf⟩ := pm_bd hf
      obtain ⟨v7, e8, hf⟩ := pm_lt hf
      by_cases c9 : v7 = 0
      · have hf := pm_it hf c9
        obtain ⟨y10, e11, hf⟩ := pm_lt hf
        cases hf
        exact ih x0 y10 h K0  hi
      · have hf := pm_ie hf c9
        obtain ⟨v12, e13, hf⟩ := pm_bd hf
        obtain ⟨v14, e15, hf⟩ := pm_bd hf
        obtain ⟨v16, e17, hf⟩ := pm_bd hf
        obtain ⟨v18, e19, hf⟩ := pm_bd hf
        have K20 := pw_t (by decide) K0 (wfX12_setItem (pw_rf _) e19)
        obtain ⟨y21, e22, hf⟩ := pm_lt hf
        cases hf
        exact ih x0 y21 v18 K20  hi
set_option maxHeartbeats 4000000 in
set_option maxRecDepth 100000 in
theorem wfX2_aimBranches {h0 h : pm_H} (K0 : pw_F WX2_aimBranches h0 h) {a0 : Nat}  {r : pm_H} (hf : fX2_aimBranches h a0 = some r) : pw_F WX2_aimBranches h0 r := by
  unfold fX2_aimBranches at hf
  obtain ⟨n, hn⟩ := pm_lim_iter hf
  exact (wlX2_aimBranches n) a0 0 h K0  hn
abbrev WX2_branch : List Nat := [260, 261, 267, 4352]
set_option maxHeartbeats 4000000 in
set_option maxRecDepth 100000 in
theorem wfX2_branch {h0 h : pm_H} (K0 : pw_F WX2_branch h0 h) {a0 : Nat} {p1 : Int32} {p2 : Int32} {p3 : Int32}  {r : (Int32 × pm_H)} (hf : fX2_branch h a0 p1 p2 p3 = some r) : pw_F WX2_branch h0 r.2 := by
  unfold fX2_branch at hf
  obtain ⟨k1, hf⟩ := pm_if hf
  obtain ⟨v2, e3, hf⟩ := pm_bd hf
  obtain ⟨k4, hf⟩ := pm_if hf
  obtain ⟨v5, e6, hf⟩ := pm_bd hf
  obtain ⟨v7, e8, hf⟩ := pm_bd hf
  have K9 := pw_t (by decide) K0 (wfX2_emit (pw_rf _) e8)
  obtain ⟨k10, hf⟩ := pm_if hf
  obtain ⟨v11, e12, hf⟩ := pm_bd hf
  obtain ⟨k13, hf⟩ := pm_if hf
  obtain ⟨v14, e15, hf⟩ := pm_bd hf
  obtain ⟨v16, e17, hf⟩ := pm_bd hf
  obtain ⟨v18, e19, hf⟩ := pm_bd hf
  obtain ⟨v20, e21, hf⟩ := pm_bd hf
  have K22 := pw_t (by decide) K9 (wfX12_setItem (pw_rf _) e21)
  obtain ⟨k23, hf⟩ := pm_if hf
  obtain ⟨v24, e25, hf⟩ := pm_bd hf
  obtain ⟨v26, e27, hf⟩ := pm_bd hf
  have K28 := pw_t (by decide) K22 (wfX12_setItem (pw_rf _) e27)
  obtain ⟨k29, hf⟩ := pm_if hf
  obtain ⟨v30, e31, hf⟩ := pm_bd hf
  obtain ⟨v32, e33, hf⟩ := pm_bd hf
  obtain ⟨k34, hf⟩ := pm_if hf
  obtain ⟨v35, e36, hf⟩ := pm_bd hf
  obtain ⟨v37, e38, hf⟩ := pm_bd hf
  have K39 := pw_t (by decide) K28 (wfX12_setItem (pw_rf _) e38)
  obtain ⟨k40, hf⟩ := pm_if hf
  obtain ⟨v41, e42, hf⟩ := pm_bd hf
  obtain ⟨v43, e44, hf⟩ := pm_bd hf
  have K45 := pw_t (by decide) K39 (wfX12_setItem (pw_rf _) e44)
  cases hf
  exact K45
abbrev WX2_emitMove : List Nat := [260, 261, 267, 4352]
set_option maxHeartbeats 4000000 in
set_option maxRecDepth 100000 in
theorem wfX2_emitMove {h0 h : pm_H} (K0 : pw_F WX2_emitMove h0 h) {a0 : Nat} {p1 : Int32} {p2 : Int32} {p3 : Int32}  {r : pm_H} (hf : fX2_emitMove h a0 p1 p2 p3 = some r) : pw_F WX2_emitMove h0 r := by
  unfold fX2_emitMove at hf
  obtain ⟨k1, hf⟩ := pm_if hf
  obtain ⟨v2, e3, hf⟩ := pm_bd hf
  have K4 := pw_t (by decide) K0 (wfX2_emit (pw_rf _) e3)
  obtain ⟨k5, hf⟩ := pm_if hf
  obtain ⟨v6, e7, hf⟩ := pm_bd hf
  obtain ⟨v8, e9, hf⟩ := pm_bd hf
  have K10 := pw_t (by decide) K4 (wfX12_setItem (pw_rf _) e9)
  obtain ⟨k11, hf⟩ := pm_if hf
  obtain ⟨v12, e13, hf⟩ := pm_bd hf
  obtain ⟨v14, e15, hf⟩ := pm_bd hf
  have K16 := pw_t (by decide) K10 (wfX12_setItem (pw_rf _) e15)
  cases hf
  exact K16
abbrev WX2_hold : List Nat := [267, 4352]
set_option maxHeartbeats 4000000 in
set_option maxRecDepth 100000 in
theorem wfX2_hold {h0 h : pm_H} (K0 : pw_F WX2_hold h0 h) {a0 : Nat} {p1 : Int32} {p2 : Int32}  {r : pm_H} (hf : fX2_hold h a0 p1 p2 = some r) : pw_F WX2_hold h0 r := by
  unfold fX2_hold at hf
  obtain ⟨k1, hf⟩ := pm_if hf
  obtain ⟨v2, e3, hf⟩ := pm_bd hf
  obtain ⟨v4, e5, hf⟩ := pm_bd hf
  have K6 := pw_t (by decide) K0 (wfX12_setItem (pw_rf _) e5)
  obtain ⟨k7, hf⟩ := pm_if hf
  obtain ⟨y8, e9, hf⟩ := pm_lt hf
  cases hf
  exact (pw_sI K6 rfl k7 (by decide))
abbrev WX2_holdConstant : List Nat := [263, 267, 4352, 4480]
set_option maxHeartbeats 4000000 in
set_option maxRecDepth 100000 in
theorem wfX2_holdConstant {h0 h : pm_H} (K0 : pw_F WX2_holdConstant h0 h) {a0 : Nat} {p1 : Int32} {p2 : Int32}  {r : pm_H} (hf : fX2_holdConstant h a0 p1 p2 = some r) : pw_F WX2_holdConstant h0 r := by
  unfold fX2_holdConstant at hf
  obtain ⟨k1, hf⟩ := pm_if hf
  obtain ⟨v2, e3, hf⟩ := pm_bd hf
  obtain ⟨v4, e5, hf⟩ := pm_bd hf
  obtain ⟨k6, hf⟩ := pm_if hf
  obtain ⟨v7, e8, hf⟩ := pm_bd hf
  obtain ⟨v9, e10, hf⟩ := pm_bd hf
  obtain ⟨v11, e12, hf⟩ := pm_bd hf
  have K13 := pw_t (by decide) K0 (wfX12_setItem_ (pw_rf _) e12)
  obtain ⟨k14, hf⟩ := pm_if hf
  obtain ⟨y15, e16, hf⟩ := pm_lt hf
  obtain ⟨v17, e18, hf⟩ := pm_bd hf
  have K19 := pw_t (by decide) (pw_sI K13 rfl k14 (by decide)) (wfX2_hold (pw_rf _) e18)
  cases hf
  exact K19
abbrev WX2_own : List Nat := [260, 261, 267, 4352]
set_option maxHeartbeats 4000000 in
set_option maxRecDepth 100000 in
theorem wlX2_own {h0 : pm_H} {r : pm_H} : ∀ n : Nat, (∀ (x0 : Nat) (x1 : Int32) (x2 : Int32) (h : pm_H), pw_F WX2_own h0 h → pm_iter sX2_own n (x0, x1, x2, h) = some r → pw_F WX2_own h0 r) := by
  intro n
  induction n with
  | zero => exact fun _ _ _ _ _ hf => (by cases hf)
  | succ n ih =>
    refine fun x0 x1 x2 h K0 hf => ?_
    obtain ⟨y, hf, hi⟩ := pm_iter_s hf
    have hf : tX2_own_2 x0 x1 x2 h = some y := hf
    unfold tX2_own_2 at hf
    by_cases c1 : x1 ≤ x2
    · have hf := pm_it hf c1
      cases hf
      cases hi
      exact K0
    · have hf := pm_ie hf c1
      obtain ⟨k2, hf⟩ := pm_if hf
      obtain ⟨v3, e4, hf⟩ := pm_bd hf
      obtain ⟨k5, hf⟩ := pm_if hf
      by_cases c6 : (Int32.ofNat (pm_ln h v3)) ≤ x2
      · have hf := pm_it hf c6
        cases hf
        cases hi
        exact K0
      · have hf := pm_ie hf c6
        obtain ⟨u7, hf⟩ := pm_if hf
        by_cases c8 : (pm_I h v3 x2.toNatClampNeg) = ((pm_I h x0 2) + x2)
        · have hf := pm_it hf c8
          obtain ⟨y9, e10, hf⟩ := pm_lt hf
          obtain ⟨u11, hf⟩ := pm_if hf
          obtain ⟨y12, e13, hf⟩ := pm_lt hf
          cases hf
          exact ih x0 x1 y12 (pm_setI h v3 x2.toNatClampNeg y9) (pw_aI K0 rfl k5 (by decide) (by decide))  hi
        · have hf := pm_ie hf c8
          obtain ⟨u14, hf⟩ := pm_if hf
          obtain ⟨v15, e16, hf⟩ := pm_bd hf
          have K17 := pw_t (by decide) K0 (wfX2_emitMove (pw_rf _) e16)
          obtain ⟨k18, hf⟩ := pm_if hf
          obtain ⟨v19, e20, hf⟩ := pm_bd hf
          obtain ⟨y21, e22, hf⟩ := pm_lt hf
          obtain ⟨k23, hf⟩ := pm_if hf
          obtain ⟨u24, hf⟩ := pm_if hf
          obtain ⟨y25, e26, hf⟩ := pm_lt hf
          cases hf
          exact ih x0 x1 y25 (pm_setI v15 v19 x2.toNatClampNeg y21) (pw_aI K17 rfl k23 (by decide) (by decide))  hi
set_option maxHeartbeats 4000000 in
set_option maxRecDepth 100000 in
theorem wfX2_own {h0 h : pm_H} (K0 : pw_F WX2_own h0 h) {a0 : Nat} {p1 : Int32}  {r : pm_H} (hf : fX2_own h a0 p1 = some r) : pw_F WX2_own h0 r := by
  unfold fX2_own at hf
  obtain ⟨n, hn⟩ := pm_lim_iter hf
  exact (wlX2_own n) a0 p1 0 h K0  hn
abbrev WX2_plain : List Nat := [260, 261, 267, 268, 4352]
set_option maxHeartbeats 4000000 in
set_option maxRecDepth 100000 in
theorem wlX2_plain {h0 : pm_H} {r : pm_H} : ∀ n : Nat, (∀ (x0 : Nat) (x1 : Int32) (x2 : Int32) (x4 : Int32) (x5 : Int32) (x6 : Int32) (x7 : Int32) (x8 : Int32) (h : pm_H), pw_F WX2_plain h0 h → pm_iter sX2_plain n (x0, x1, x2, x4, x5, x6, x7, x8, h) = some r → pw_F WX2_plain h0 r) := by
  intro n
  induction n with
  | zero => exact fun _ _ _ _ _ _ _ _ _ _ hf => (by cases hf)
  | succ n ih =>
    refine fun x0 x1 x2 x4 x5 x6 x7 x8 h K0 hf => ?_
    obtain ⟨y, hf, hi⟩ := pm_iter_s hf
    have hf : tX2_plain_71 x0 x1 x2 x4 x5 x6 x7 x8 h = some y := hf
    unfold tX2_plain_71 at hf
    by_cases c33 : (x4 >>> ((1 : Int32) &&& 31)) ≤ x8
    · have hf := pm_it hf c33
      obtain ⟨k34, hf⟩ := pm_if hf
      obtain ⟨v35, e36, hf⟩ := pm_bd hf
      obtain ⟨v37, e38, hf⟩ := pm_bd hf
      obtain ⟨k39, hf⟩ := pm_if hf
      obtain ⟨v40, e41, hf⟩ := pm_bd hf
      obtain ⟨v42, e43, hf⟩ := pm_bd hf
      have K44 := pw_t (by decide) K0 (wfX12_setItem (pw_rf _) e43)
      obtain ⟨k45, hf⟩ := pm_if hf
      obtain ⟨v46, e47, hf⟩ := pm_bd hf
      obtain ⟨v48, e49, hf⟩ := pm_bd hf
      obtain ⟨k50, hf⟩ := pm_if hf
      obtain ⟨v51, e52, hf⟩ := pm_bd hf
      obtain ⟨v53, e54, hf⟩ := pm_bd hf
      have K55 := pw_t (by decide) K44 (wfX12_setItem (pw_rf _) e54)
      by_cases c56 : x7 = 0
      · have hf := pm_it hf c56
        by_cases c57 : x2 = 0
        · have hf := pm_it hf c57
          obtain ⟨k58, hf⟩ := pm_if hf
          cases hf
          cases hi
          exact (pw_sI K55 rfl k58 (by decide))
        · have hf := pm_ie hf c57
          cases hf
          cases hi
          exact K55
      · have hf := pm_ie hf c56
        obtain ⟨k59, hf⟩ := pm_if hf
        obtain ⟨v60, e61, hf⟩ := pm_bd hf
        obtain ⟨v62, e63, hf⟩ := pm_bd hf
        have K64 := pw_t (by decide) K55 (wfX12_setItem (pw_rf _) e63)
        by_cases c65 : x2 = 0
        · have hf := pm_it hf c65
          obtain ⟨k66, hf⟩ := pm_if hf
          cases hf
          cases hi
          exact (pw_sI K64 rfl k66 (by decide))
        · have hf := pm_ie hf c65
          cases hf
          cases hi
          exact K64
    · have hf := pm_ie hf c33
      obtain ⟨k67, hf⟩ := pm_if hf
      obtain ⟨v68, e69, hf⟩ := pm_bd hf
      obtain ⟨v70, e71, hf⟩ := pm_bd hf
      obtain ⟨v72, e73, hf⟩ := pm_bd hf
      have K74 := pw_t (by decide) K0 (wfX12_setItem (pw_rf _) e73)
      obtain ⟨y75, e76, hf⟩ := pm_lt hf
      cases hf
      exact ih x0 x1 x2 x4 x5 x6 x7 y75 v72 K74  hi
set_option maxHeartbeats 4000000 in
set_option maxRecDepth 100000 in
theorem wfX2_plain {h0 h : pm_H} (K0 : pw_F WX2_plain h0 h) {a0 : Nat} {p1 : Int32} {p2 : Int32} {p3 : Int32}  {r : pm_H} (hf : fX2_plain h a0 p1 p2 p3 = some r) : pw_F WX2_plain h0 r := by
  unfold fX2_plain at hf
  obtain ⟨k1, hf⟩ := pm_if hf
  obtain ⟨v2, e3, hf⟩ := pm_bd hf
  obtain ⟨k4, hf⟩ := pm_if hf
  obtain ⟨v5, e6, hf⟩ := pm_bd hf
  obtain ⟨y7, e8, hf⟩ := pm_lt hf
  obtain ⟨v9, e10, hf⟩ := pm_bd hf
  have K11 := pw_t (by decide) K0 (wfX2_emit (pw_rf _) e10)
  by_cases c12 : (v5 &&& 1) = 0
  · have hf := pm_it hf c12
    obtain ⟨k13, hf⟩ := pm_if hf
    obtain ⟨v14, e15, hf⟩ := pm_bd hf
    by_cases c16 : (0 : Int32) = (0 : Int32)
    · have hf := pm_it hf c16
      obtain ⟨v17, e18, hf⟩ := pm_bd hf
      have K19 := pw_t (by decide) K11 (wfX12_setItem (pw_rf _) e18)
      obtain ⟨n, hn⟩ := pm_lim_iter hf
      exact (wlX2_plain n) a0 p1 p2 v5 y7 v9.1 0 0 v17 K19  hn
    · have hf := pm_ie hf c16
      obtain ⟨v20, e21, hf⟩ := pm_bd hf
      have K22 := pw_t (by decide) K11 (wfX12_setItem (pw_rf _) e21)
      obtain ⟨n, hn⟩ := pm_lim_iter hf
      exact (wlX2_plain n) a0 p1 p2 v5 y7 v9.1 0 0 v20 K22  hn
  · have hf := pm_ie hf c12
    obtain ⟨k23, hf⟩ := pm_if hf
    obtain ⟨v24, e25, hf⟩ := pm_bd hf
    by_cases c26 : (1 : Int32) = (0 : Int32)
    · have hf := pm_it hf c26
      obtain ⟨v27, e28, hf⟩ := pm_bd hf
      have K29 := pw_t (by decide) K11 (wfX12_setItem (pw_rf _) e28)
      obtain ⟨n, hn⟩ := pm_lim_iter hf
      exact (wlX2_plain n) a0 p1 p2 v5 y7 v9.1 1 0 v27 K29  hn
    · have hf := pm_ie hf c26
      obtain ⟨v30, e31, hf⟩ := pm_bd hf
      have K32 := pw_t (by decide) K11 (wfX12_setItem (pw_rf _) e31)
      obtain ⟨n, hn⟩ := pm_lim_iter hf
      exact (wlX2_plain n) a0 p1 p2 v5 y7 v9.1 1 0 v30 K32  hn
abbrev WX2_setLocal : List Nat := [260, 261, 267, 4352]
set_option maxHeartbeats 4000000 in
set_option maxRecDepth 100000 in
theorem wlX2_setLocal {h0 : pm_H} {r : pm_H} : ∀ n : Nat, (∀ (x0 : Nat) (x1 : Int32) (x2 : Int32) (x3 : Int32) (x4 : Int32) (h : pm_H), pw_F WX2_setLocal h0 h → pm_iter sX2_setLocal n (x0, x1, x2, x3, x4, h) = some r → pw_F WX2_setLocal h0 r) := by
  intro n
  induction n with
  | zero => exact fun _ _ _ _ _ _ _ hf => (by cases hf)
  | succ n ih =>
    refine fun x0 x1 x2 x3 x4 h K0 hf => ?_
    obtain ⟨y, hf, hi⟩ := pm_iter_s hf
    have hf : tX2_setLocal_11 x0 x1 x2 x3 x4 h = some y := hf
    unfold tX2_setLocal_11 at hf
    by_cases c4 : (x2 - 1) ≤ x4
    · have hf := pm_it hf c4
      by_cases c5 : x3 = x1
      · have hf := pm_it hf c5
        obtain ⟨k6, hf⟩ := pm_if hf
        obtain ⟨y7, e8, hf⟩ := pm_lt hf
        cases hf
        cases hi
        exact (pw_sI K0 rfl k6 (by decide))
      · have hf := pm_ie hf c5
        obtain ⟨k9, hf⟩ := pm_if hf
        obtain ⟨v10, e11, hf⟩ := pm_bd hf
        have K12 := pw_t (by decide) K0 (wfX2_emitMove (pw_rf _) e11)
        cases hf
        cases hi
        exact K12
    · have hf := pm_ie hf c4
      obtain ⟨k13, hf⟩ := pm_if hf
      obtain ⟨v14, e15, hf⟩ := pm_bd hf
      obtain ⟨k16, hf⟩ := pm_if hf
      by_cases c17 : (Int32.ofNat (pm_ln h v14)) ≤ x4
      · have hf := pm_it hf c17
        by_cases c18 : x3 = x1
        · have hf := pm_it hf c18
          obtain ⟨y19, e20, hf⟩ := pm_lt hf
          cases hf
          cases hi
          exact (pw_sI K0 rfl k13 (by decide))
        · have hf := pm_ie hf c18
          obtain ⟨v21, e22, hf⟩ := pm_bd hf
          have K23 := pw_t (by decide) K0 (wfX2_emitMove (pw_rf _) e22)
          cases hf
          cases hi
          exact K23
      · have hf := pm_ie hf c17
        obtain ⟨u24, hf⟩ := pm_if hf
        by_cases c25 : (pm_I h v14 x4.toNatClampNeg) = x1
        · have hf := pm_it hf c25
          obtain ⟨v26, e27, hf⟩ := pm_bd hf
          have K28 := pw_t (by decide) K0 (wfX2_emitMove (pw_rf _) e27)
          obtain ⟨k29, hf⟩ := pm_if hf
          obtain ⟨v30, e31, hf⟩ := pm_bd hf
          obtain ⟨y32, e33, hf⟩ := pm_lt hf
          obtain ⟨k34, hf⟩ := pm_if hf
          obtain ⟨u35, hf⟩ := pm_if hf
          obtain ⟨y36, e37, hf⟩ := pm_lt hf
          cases hf
          exact ih x0 x1 x2 x3 y36 (pm_setI v26 v30 x4.toNatClampNeg y32) (pw_aI K28 rfl k34 (by decide) (by decide))  hi
        · have hf := pm_ie hf c25
          obtain ⟨y38, e39, hf⟩ := pm_lt hf
          cases hf
          exact ih x0 x1 x2 x3 y38 h K0  hi
set_option maxHeartbeats 4000000 in
set_option maxRecDepth 100000 in
theorem wfX2_setLocal {h0 h : pm_H} (K0 : pw_F WX2_setLocal h0 h) {a0 : Nat} {p1 : Int32} {p2 : Int32}  {r : pm_H} (hf : fX2_setLocal h a0 p1 p2 = some r) : pw_F WX2_setLocal h0 r := by
  unfold fX2_setLocal at hf
  obtain ⟨k1, hf⟩ := pm_if hf
  obtain ⟨v2, e3, hf⟩ := pm_bd hf
  obtain ⟨n, hn⟩ := pm_lim_iter hf
  exact (wlX2_setLocal n) a0 p1 p2 v2 0 h K0  hn
abbrev WX5_clearLocals : List Nat := [4480]
set_option maxHeartbeats 4000000 in
set_option maxRecDepth 100000 in
theorem wlX5_clearLocals {h0 : pm_H} {r : pm_H} : ∀ n : Nat, (∀ (x0 : Nat) (x1 : Nat) (x4 : Int32) (h : pm_H), pw_F WX5_clearLocals h0 h → pm_iter sX5_clearLocals n (.inl (x0, x1, x4, h)) = some r → pw_F WX5_clearLocals h0 r) ∧ (∀ (x0 : Nat) (x1 : Nat) (x4 : Int32) (h : pm_H), pw_F WX5_clearLocals h0 h → pm_iter sX5_clearLocals n (.inr (.inl (x0, x1, x4, h))) = some r → pw_F WX5_clearLocals h0 r) ∧ (∀ (x0 : Nat) (x1 : Nat) (x4 : Int32) (x5 : Int32) (h : pm_H), pw_F WX5_clearLocals h0 h → pm_iter sX5_clearLocals n (.inr (.inr (x0, x1, x4, x5, h))) = some r → pw_F WX5_clearLocals h0 r) := by
  intro n
  induction n with
  | zero => exact ⟨fun _ _ _ _ _ hf => (by cases hf), fun _ _ _ _ _ hf => (by cases hf), fun _ _ _ _ _ _ hf => (by cases hf)⟩
  | succ n ih =>
    refine ⟨fun x0 x1 x4 h K0 hf => ?_, ?_⟩
    · obtain ⟨y, hf, hi⟩ := pm_iter_s hf
      have hf : tX5_clearLocals_13 x0 x1 x4 h = some y := hf
      unfold tX5_clearLocals_13 at hf
      obtain ⟨k7, hf⟩ := pm_if hf
      obtain ⟨v8, e9, hf⟩ := pm_bd hf
      obtain ⟨k10, hf⟩ := pm_if hf
      by_cases c11 : (pm_I h v8 5) ≤ x4
      · have hf := pm_it hf c11
        cases hf
        exact ih.2.1 x0 x1 0 h K0  hi
      · have hf := pm_ie hf c11
        obtain ⟨v12, e13, hf⟩ := pm_bd hf
        obtain ⟨v14, e15, hf⟩ := pm_bd hf
        have K16 := pw_t (by decide) K0 (wfX12_setItem_ (pw_rf _) e15)
        obtain ⟨y17, e18, hf⟩ := pm_lt hf
        cases hf
        exact ih.1 x0 x1 y17 v14 K16  hi
    refine ⟨fun x0 x1 x4 h K0 hf => ?_, ?_⟩
    · obtain ⟨y, hf, hi⟩ := pm_iter_s hf
      have hf : tX5_clearLocals_44 x0 x1 x4 h = some y := hf
      unfold tX5_clearLocals_44 at hf
      obtain ⟨k19, hf⟩ := pm_if hf
      obtain ⟨v20, e21, hf⟩ := pm_bd hf
      obtain ⟨k22, hf⟩ := pm_if hf
      by_cases c23 : (Int32.ofNat (pm_ln h v20)) ≤ (x4 + 1)
      · have hf := pm_it hf c23
        cases hf
        cases hi
        exact K0
      · have hf := pm_ie hf c23
        obtain ⟨u24, hf⟩ := pm_if hf
        obtain ⟨y25, e26, hf⟩ := pm_lt hf
        cases hf
        exact ih.2.2 x0 x1 x4 y25 h K0  hi
    refine fun x0 x1 x4 x5 h K0 hf => ?_
    obtain ⟨y, hf, hi⟩ := pm_iter_s hf
    have hf : tX5_clearLocals_65 x0 x1 x4 x5 h = some y := hf
    unfold tX5_clearLocals_65 at hf
    obtain ⟨k27, hf⟩ := pm_if hf
    obtain ⟨v28, e29, hf⟩ := pm_bd hf
    obtain ⟨y30, e31, hf⟩ := pm_lt hf
    obtain ⟨k32, hf⟩ := pm_if hf
    obtain ⟨u33, hf⟩ := pm_if hf
    by_cases c34 : (pm_I h v28 y30.toNatClampNeg) ≤ x5
    · have hf := pm_it hf c34
      obtain ⟨y35, e36, hf⟩ := pm_lt hf
      cases hf
      exact ih.2.1 x0 x1 y35 h K0  hi
    · have hf := pm_ie hf c34
      obtain ⟨k37, hf⟩ := pm_if hf
      obtain ⟨v38, e39, hf⟩ := pm_bd hf
      obtain ⟨v40, e41, hf⟩ := pm_bd hf
      obtain ⟨k42, hf⟩ := pm_if hf
      obtain ⟨v43, e44, hf⟩ := pm_bd hf
      have K45 := pw_t (by decide) K0 (wfX12_setItem_ (pw_rf _) e44)
      obtain ⟨y46, e47, hf⟩ := pm_lt hf
      cases hf
      exact ih.2.2 x0 x1 x4 y46 v43 K45  hi
set_option maxHeartbeats 4000000 in
set_option maxRecDepth 100000 in
theorem wfX5_clearLocals {h0 h : pm_H} (K0 : pw_F WX5_clearLocals h0 h) {a0 : Nat} {p1 : Nat} {p2 : Int32}  {r : pm_H} (hf : fX5_clearLocals h a0 p1 p2 = some r) : pw_F WX5_clearLocals h0 r := by
  unfold fX5_clearLocals at hf
  obtain ⟨k1, hf⟩ := pm_if hf
  obtain ⟨v2, e3, hf⟩ := pm_bd hf
  obtain ⟨k4, hf⟩ := pm_if hf
  obtain ⟨y5, e6, hf⟩ := pm_lt hf
  obtain ⟨n, hn⟩ := pm_lim_iter hf
  exact (wlX5_clearLocals n).1 a0 p1 y5 h K0  hn
abbrev WX5_fail : List Nat := [640, 641, 643, 653, 654]
set_option maxHeartbeats 4000000 in
set_option maxRecDepth 100000 in
theorem wfX5_fail {h0 h : pm_H} (K0 : pw_F WX5_fail h0 h) {a0 : Nat} {p1 : Int32}  {r : pm_H} (hf : fX5_fail h a0 p1 = some r) : pw_F WX5_fail h0 r := by
  unfold fX5_fail at hf
  obtain ⟨k1, hf⟩ := pm_if hf
  obtain ⟨v2, e3, hf⟩ := pm_bd hf
  have K4 := pw_t (by decide) (pw_sI K0 rfl k1 (by decide)) (wfX5_stop (pw_rf _) e3)
  cases hf
  exact K4
abbrev WX5_failAtMaking : List Nat := [640, 641, 642, 643, 653, 654]
set_option maxHeartbeats 4000000 in
set_option maxRecDepth 100000 in
theorem wfX5_failAtMaking {h0 h : pm_H} (K0 : pw_F WX5_failAtMaking h0 h) {a0 : Nat} {p1 : Int32}  {r : pm_H} (hf : fX5_failAtMaking h a0 p1 = some r) : pw_F WX5_failAtMaking h0 r := by
  unfold fX5_failAtMaking at hf
  obtain ⟨k1, hf⟩ := pm_if hf
  obtain ⟨v2, e3, hf⟩ := pm_bd hf
  have K4 := pw_t (by decide) (pw_sI K0 rfl k1 (by decide)) (wfX5_fail (pw_rf _) e3)
  cases hf
  exact K4
abbrev WX5_pop : List Nat := [389]
set_option maxHeartbeats 4000000 in
set_option maxRecDepth 100000 in
theorem wfX5_pop {h0 h : pm_H} (K0 : pw_F WX5_pop h0 h) {a0 : Nat}  {r : (Int64 × pm_H)} (hf : fX5_pop h a0 = some r) : pw_F WX5_pop h0 r.2 := by
  unfold fX5_pop at hf
  obtain ⟨k1, hf⟩ := pm_if hf
  obtain ⟨v2, e3, hf⟩ := pm_bd hf
  obtain ⟨k4, hf⟩ := pm_if hf
  obtain ⟨y5, e6, hf⟩ := pm_lt hf
  obtain ⟨v7, e8, hf⟩ := pm_bd hf
  obtain ⟨v9, e10, hf⟩ := pm_bd hf
  cases hf
  exact (pw_sI K0 rfl k4 (by decide))
abbrev WX5_push : List Nat := [389, 4480]
set_option maxHeartbeats 4000000 in
set_option maxRecDepth 100000 in
theorem wfX5_push {h0 h : pm_H} (K0 : pw_F WX5_push h0 h) {a0 : Nat} {p1 : Int64}  {r : pm_H} (hf : fX5_push h a0 p1 = some r) : pw_F WX5_push h0 r := by
  unfold fX5_push at hf
  obtain ⟨k1, hf⟩ := pm_if hf
  obtain ⟨v2, e3, hf⟩ := pm_bd hf
  obtain ⟨v4, e5, hf⟩ := pm_bd hf
  obtain ⟨k6, hf⟩ := pm_if hf
  obtain ⟨v7, e8, hf⟩ := pm_bd hf
  have K9 := pw_t (by decide) K0 (wfX12_setItem_ (pw_rf _) e8)
  obtain ⟨k10, hf⟩ := pm_if hf
  obtain ⟨v11, e12, hf⟩ := pm_bd hf
  obtain ⟨k13, hf⟩ := pm_if hf
  obtain ⟨y14, e15, hf⟩ := pm_lt hf
  cases hf
  exact (pw_sI K9 rfl k13 (by decide))
