abbrev WX5_tell : List Nat := [647, 4480]
set_option maxHeartbeats 4000000 in
set_option maxRecDepth 100000 in
theorem wlX5_tell {h0 : pm_H} {r : pm_H} : ∀ n : Nat, (∀ (x0 : Nat) (x1 : Int32) (x2 : Int32) (x3 : Int32) (h : pm_H), pw_F WX5_tell h0 h → pm_iter sX5_tell n (x0, x1, x2, x3, h) = some r → pw_F WX5_tell h0 r) := by
  intro n
  induction n with
  | zero => exact fun _ _ _ _ _ _ hf => (by cases hf)
  | succ n ih =>
    refine fun x0 x1 x2 x3 h K0 hf => ?_
    obtain ⟨y, hf, hi⟩ := pm_iter_s hf
    have hf : tX5_tell_7 x0 x1 x2 x3 h = some y := hf
    unfold tX5_tell_7 at hf
    by_cases c2 : x2 ≤ x3
    · have hf := pm_it hf c2
      cases hf
      cases hi
      exact K0
    · have hf := pm_ie hf c2
      obtain ⟨k3, hf⟩ := pm_if hf
      obtain ⟨v4, e5, hf⟩ := pm_bd hf
      obtain ⟨v6, e7, hf⟩ := pm_bd hf
      obtain ⟨v8, e9, hf⟩ := pm_bd hf
      obtain ⟨v10, e11, hf⟩ := pm_bd hf
      have K12 := pw_t (by decide) K0 (wfX12_setItem_ (pw_rf _) e11)
      obtain ⟨y13, e14, hf⟩ := pm_lt hf
      cases hf
      exact ih x0 x1 x2 y13 v10 K12  hi
set_option maxHeartbeats 4000000 in
set_option maxRecDepth 100000 in
theorem wfX5_tell {h0 h : pm_H} (K0 : pw_F WX5_tell h0 h) {a0 : Nat} {p1 : Int32} {p2 : Int32}  {r : pm_H} (hf : fX5_tell h a0 p1 p2 = some r) : pw_F WX5_tell h0 r := by
  unfold fX5_tell at hf
  obtain ⟨k1, hf⟩ := pm_if hf
  obtain ⟨n, hn⟩ := pm_lim_iter hf
  exact (wlX5_tell n) a0 p1 p2 0 (pm_setI h a0 7 p2) (pw_sI K0 rfl k1 (by decide))  hn
abbrev WX8_divide64 : List Nat := [1024]
set_option maxHeartbeats 4000000 in
set_option maxRecDepth 100000 in
theorem wfX8_divide64_b67 {h0 h : pm_H} (K0 : pw_F WX8_divide64 h0 h) {x0 : Nat} {x1 : Int32} {x2 : Int64} {x4 : Int64} {s0 : Int32}  {r : (Int64 × pm_H)} (hf : fX8_divide64_b67 h x0 x1 x2 x4 s0 = some r) : pw_F WX8_divide64 h0 r.2 := by
  unfold fX8_divide64_b67 at hf
  by_cases c11 : s0 = 0
  · have hf := pm_it hf c11
    by_cases c12 : s0 = 0
    · have hf := pm_it hf c12
      by_cases c13 : x1 = 6
      · have hf := pm_it hf c13
        obtain ⟨u14, hf⟩ := pm_if hf
        cases hf
        exact K0
      · have hf := pm_ie hf c13
        obtain ⟨u15, hf⟩ := pm_if hf
        cases hf
        exact K0
    · have hf := pm_ie hf c12
      cases hf
      exact K0
  · have hf := pm_ie hf c11
    by_cases c16 : x1 = 6
    · have hf := pm_it hf c16
      obtain ⟨k17, hf⟩ := pm_if hf
      by_cases c18 : s0 = 0
      · have hf := pm_it hf c18
        by_cases c19 : x1 = 6
        · have hf := pm_it hf c19
          obtain ⟨u20, hf⟩ := pm_if hf
          cases hf
          exact (pw_sI K0 rfl k17 (by decide))
        · have hf := pm_ie hf c19
          obtain ⟨u21, hf⟩ := pm_if hf
          cases hf
          exact (pw_sI K0 rfl k17 (by decide))
      · have hf := pm_ie hf c18
        cases hf
        exact (pw_sI K0 rfl k17 (by decide))
    · have hf := pm_ie hf c16
      by_cases c22 : s0 = 0
      · have hf := pm_it hf c22
        by_cases c23 : x1 = 6
        · have hf := pm_it hf c23
          obtain ⟨u24, hf⟩ := pm_if hf
          cases hf
          exact K0
        · have hf := pm_ie hf c23
          obtain ⟨u25, hf⟩ := pm_if hf
          cases hf
          exact K0
      · have hf := pm_ie hf c22
        cases hf
        exact K0
set_option maxHeartbeats 4000000 in
set_option maxRecDepth 100000 in
theorem wfX8_divide64_b66 {h0 h : pm_H} (K0 : pw_F WX8_divide64 h0 h) {x0 : Nat} {x1 : Int32} {x2 : Int64} {x4 : Int64}  {r : (Int64 × pm_H)} (hf : fX8_divide64_b66 h x0 x1 x2 x4 = some r) : pw_F WX8_divide64 h0 r.2 := by
  unfold fX8_divide64_b66 at hf
  exact wfX8_divide64_b67 K0  hf
set_option maxHeartbeats 4000000 in
set_option maxRecDepth 100000 in
theorem wfX8_divide64 {h0 h : pm_H} (K0 : pw_F WX8_divide64 h0 h) {a0 : Nat} {p1 : Int32} {p2 : Int64} {p3 : Int64}  {r : (Int64 × pm_H)} (hf : fX8_divide64 h a0 p1 p2 p3 = some r) : pw_F WX8_divide64 h0 r.2 := by
  unfold fX8_divide64 at hf
  by_cases c1 : p3 = 0
  · have hf := pm_it hf c1
    obtain ⟨k2, hf⟩ := pm_if hf
    cases hf
    exact (pw_sI K0 rfl k2 (by decide))
  · have hf := pm_ie hf c1
    by_cases c3 : p1 = 7
    · have hf := pm_it hf c3
      obtain ⟨v4, e5, hf⟩ := pm_bd hf
      cases hf
      exact K0
    · have hf := pm_ie hf c3
      by_cases c6 : p1 = 9
      · have hf := pm_it hf c6
        obtain ⟨v7, e8, hf⟩ := pm_bd hf
        cases hf
        exact K0
      · have hf := pm_ie hf c6
        by_cases c9 : p2 = (-9223372036854775808)
        · have hf := pm_it hf c9
          by_cases c10 : p3 = (-1)
          · have hf := pm_it hf c10
            exact wfX8_divide64_b67 K0  hf
          · have hf := pm_ie hf c10
            exact wfX8_divide64_b66 K0  hf
        · have hf := pm_ie hf c9
          exact wfX8_divide64_b66 K0  hf
abbrev WX8_whole64 : List Nat := [1024]
set_option maxHeartbeats 4000000 in
set_option maxRecDepth 100000 in
theorem wfX8_whole64_b21 {h0 h : pm_H} (K0 : pw_F WX8_whole64 h0 h) {x1 : Int32} {x2 : Int64} {x4 : Int64}  {r : (Int64 × pm_H)} (hf : fX8_whole64_b21 h x1 x2 x4 = some r) : pw_F WX8_whole64 h0 r.2 := by
  unfold fX8_whole64_b21 at hf
  obtain ⟨y7, e8, hf⟩ := pm_lt hf
  by_cases c9 : x1 = 0
  · have hf := pm_it hf c9
    obtain ⟨v10, e11, hf⟩ := pm_lt hf
    cases hf
    exact K0
  have hf := pm_ie hf c9
  by_cases c12 : x1 = 1
  · have hf := pm_it hf c12
    obtain ⟨v13, e14, hf⟩ := pm_lt hf
    cases hf
    exact K0
  have hf := pm_ie hf c12
  by_cases c15 : x1 = 2
  · have hf := pm_it hf c15
    obtain ⟨v16, e17, hf⟩ := pm_lt hf
    cases hf
    exact K0
  have hf := pm_ie hf c15
  by_cases c18 : x1 = 3
  · have hf := pm_it hf c18
    cases hf
    exact K0
  have hf := pm_ie hf c18
  by_cases c19 : x1 = 4
  · have hf := pm_it hf c19
    cases hf
    exact K0
  have hf := pm_ie hf c19
  by_cases c20 : x1 = 5
  · have hf := pm_it hf c20
    cases hf
    exact K0
  have hf := pm_ie hf c20
  by_cases c21 : x1 = 6
  · have hf := pm_it hf c21
    cases hf
    exact K0
  have hf := pm_ie hf c21
  by_cases c22 : x1 = 7
  · have hf := pm_it hf c22
    cases hf
    exact K0
  have hf := pm_ie hf c22
  by_cases c23 : x1 = 8
  · have hf := pm_it hf c23
    cases hf
    exact K0
  have hf := pm_ie hf c23
  by_cases c24 : x1 = 9
  · have hf := pm_it hf c24
    cases hf
    exact K0
  have hf := pm_ie hf c24
  by_cases c25 : x1 = 10
  · have hf := pm_it hf c25
    cases hf
    exact K0
  have hf := pm_ie hf c25
  by_cases c26 : x1 = 11
  · have hf := pm_it hf c26
    cases hf
    exact K0
  have hf := pm_ie hf c26
  by_cases c27 : x1 = 12
  · have hf := pm_it hf c27
    cases hf
    exact K0
  have hf := pm_ie hf c27
  by_cases c28 : x1 = 13
  · have hf := pm_it hf c28
    cases hf
    exact K0
  have hf := pm_ie hf c28
  by_cases c29 : x1 = 14
  · have hf := pm_it hf c29
    cases hf
    exact K0
  have hf := pm_ie hf c29
  by_cases c30 : x1 = 15
  · have hf := pm_it hf c30
    cases hf
    exact K0
  have hf := pm_ie hf c30
  by_cases c31 : x1 = 16
  · have hf := pm_it hf c31
    cases hf
    exact K0
  have hf := pm_ie hf c31
  cases hf
  exact K0
set_option maxHeartbeats 4000000 in
set_option maxRecDepth 100000 in
theorem wfX8_whole64 {h0 h : pm_H} (K0 : pw_F WX8_whole64 h0 h) {a0 : Nat} {p1 : Int32} {p2 : Int64} {p3 : Int64}  {r : (Int64 × pm_H)} (hf : fX8_whole64 h a0 p1 p2 p3 = some r) : pw_F WX8_whole64 h0 r.2 := by
  unfold fX8_whole64 at hf
  by_cases c1 : p1 < 6
  · have hf := pm_it hf c1
    exact wfX8_whole64_b21 K0  hf
  · have hf := pm_ie hf c1
    by_cases c2 : 9 < p1
    · have hf := pm_it hf c2
      exact wfX8_whole64_b21 K0  hf
    · have hf := pm_ie hf c2
      obtain ⟨k3, hf⟩ := pm_if hf
      obtain ⟨v4, e5, hf⟩ := pm_bd hf
      have K6 := pw_t (by decide) K0 (wfX8_divide64 (pw_rf _) e5)
      cases hf
      exact K6
abbrev WX9_finish : List Nat := [1155, 1156]
set_option maxHeartbeats 4000000 in
set_option maxRecDepth 100000 in
theorem wfX9_finish {h0 h : pm_H} (K0 : pw_F WX9_finish h0 h) {a0 : Nat}  {r : pm_H} (hf : fX9_finish h a0 = some r) : pw_F WX9_finish h0 r := by
  unfold fX9_finish at hf
  obtain ⟨k1, hf⟩ := pm_if hf
  obtain ⟨v2, e3, hf⟩ := pm_bd hf
  obtain ⟨k4, hf⟩ := pm_if hf
  obtain ⟨v5, e6, hf⟩ := pm_bd hf
  obtain ⟨v7, e8, hf⟩ := pm_bd hf
  obtain ⟨y9, e10, hf⟩ := pm_lt hf
  obtain ⟨v11, e12, hf⟩ := pm_bd hf
  obtain ⟨k13, hf⟩ := pm_if hf
  by_cases c14 : y9 = ((Int32.ofNat (pm_ln h v11)) / 2)
  · have hf := pm_it hf c14
    by_cases c15 : (pm_L h v2 14) < 0
    · have hf := pm_it hf c15
      cases hf
      exact K0
    · have hf := pm_ie hf c15
      obtain ⟨v16, e17, hf⟩ := pm_bd hf
      obtain ⟨k18, hf⟩ := pm_if hf
      by_cases c19 : (pm_L h v2 14) = (((Int32.ofNat (pm_ln h v16)) / 7).toInt64)
      · have hf := pm_it hf c19
        cases hf
        exact K0
      · have hf := pm_ie hf c19
        obtain ⟨v20, e21, hf⟩ := pm_bd hf
        have K22 := pw_t (by decide) K0 (wfX9_fail (pw_rf _) e21)
        cases hf
        exact K22
  · have hf := pm_ie hf c14
    obtain ⟨v23, e24, hf⟩ := pm_bd hf
    have K25 := pw_t (by decide) K0 (wfX9_fail (pw_rf _) e24)
    obtain ⟨k26, hf⟩ := pm_if hf
    obtain ⟨v27, e28, hf⟩ := pm_bd hf
    obtain ⟨k29, hf⟩ := pm_if hf
    by_cases c30 : (pm_L v23 v27 14) < 0
    · have hf := pm_it hf c30
      cases hf
      exact K25
    · have hf := pm_ie hf c30
      obtain ⟨v31, e32, hf⟩ := pm_bd hf
      obtain ⟨k33, hf⟩ := pm_if hf
      by_cases c34 : (pm_L v23 v27 14) = (((Int32.ofNat (pm_ln v23 v31)) / 7).toInt64)
      · have hf := pm_it hf c34
        cases hf
        exact K25
      · have hf := pm_ie hf c34
        obtain ⟨v35, e36, hf⟩ := pm_bd hf
        have K37 := pw_t (by decide) K25 (wfX9_fail (pw_rf _) e36)
        cases hf
        exact K37
abbrev WX9_lowestFirst : List Nat := [1153, 1155, 1156]
set_option maxHeartbeats 4000000 in
set_option maxRecDepth 100000 in
theorem wlX9_lowestFirst {h0 : pm_H} {r : (Int64 × pm_H)} : ∀ n : Nat, (∀ (x0 : Nat) (x1 : Int32) (x2 : Int64) (x4 : Int32) (h : pm_H), pw_F WX9_lowestFirst h0 h → pm_iter sX9_lowestFirst n (x0, x1, x2, x4, h) = some r → pw_F WX9_lowestFirst h0 r.2) := by
  intro n
  induction n with
  | zero => exact fun _ _ _ _ _ _ hf => (by cases hf)
  | succ n ih =>
    refine fun x0 x1 x2 x4 h K0 hf => ?_
    obtain ⟨y, hf, hi⟩ := pm_iter_s hf
    have hf : tX9_lowestFirst_5 x0 x1 x2 x4 h = some y := hf
    unfold tX9_lowestFirst_5 at hf
    by_cases c1 : x1 ≤ x4
    · have hf := pm_it hf c1
      cases hf
      cases hi
      exact K0
    · have hf := pm_ie hf c1
      obtain ⟨k2, hf⟩ := pm_if hf
      obtain ⟨v3, e4, hf⟩ := pm_bd hf
      have K5 := pw_t (by decide) K0 (wfX9_next (pw_rf _) e4)
      obtain ⟨y6, e7, hf⟩ := pm_lt hf
      obtain ⟨y8, e9, hf⟩ := pm_lt hf
      cases hf
      exact ih x0 x1 y6 y8 v3.2 K5  hi
set_option maxHeartbeats 4000000 in
set_option maxRecDepth 100000 in
theorem wfX9_lowestFirst {h0 h : pm_H} (K0 : pw_F WX9_lowestFirst h0 h) {a0 : Nat} {p1 : Int32}  {r : (Int64 × pm_H)} (hf : fX9_lowestFirst h a0 p1 = some r) : pw_F WX9_lowestFirst h0 r.2 := by
  unfold fX9_lowestFirst at hf
  obtain ⟨n, hn⟩ := pm_lim_iter hf
  exact (wlX9_lowestFirst n) a0 p1 0 0 h K0  hn
abbrev WX11_copy : List Nat := [4352]
set_option maxHeartbeats 4000000 in
set_option maxRecDepth 100000 in
theorem wlX11_copy {h0 : pm_H} {r : pm_H} : ∀ n : Nat, (∀ (x0 : Nat) (x1 : Int32) (x2 : Int32) (x3 : Int64) (x5 : Int64) (x7 : Int64) (x9 : Int32) (x10 : Int64) (h : pm_H), pw_F WX11_copy h0 h → pm_iter sX11_copy n (x0, x1, x2, x3, x5, x7, x9, x10, h) = some r → pw_F WX11_copy h0 r) := by
  intro n
  induction n with
  | zero => exact fun _ _ _ _ _ _ _ _ _ _ hf => (by cases hf)
  | succ n ih =>
    refine fun x0 x1 x2 x3 x5 x7 x9 x10 h K0 hf => ?_
    obtain ⟨y, hf, hi⟩ := pm_iter_s hf
    have hf : tX11_copy_17 x0 x1 x2 x3 x5 x7 x9 x10 h = some y := hf
    unfold tX11_copy_17 at hf
    by_cases c2 : x7 ≤ x10
    · have hf := pm_it hf c2
      cases hf
      cases hi
      exact K0
    · have hf := pm_ie hf c2
      by_cases c3 : x9 = 0
      · have hf := pm_it hf c3
        obtain ⟨k4, hf⟩ := pm_if hf
        obtain ⟨v5, e6, hf⟩ := pm_bd hf
        obtain ⟨v7, e8, hf⟩ := pm_bd hf
        have K9 := pw_t (by decide) K0 (wfX11_setEntry (pw_rf _) e8)
        obtain ⟨y10, e11, hf⟩ := pm_lt hf
        cases hf
        exact ih x0 x1 x2 x3 x5 x7 x9 y10 v7 K9  hi
      · have hf := pm_ie hf c3
        obtain ⟨y12, e13, hf⟩ := pm_lt hf
        obtain ⟨k14, hf⟩ := pm_if hf
        obtain ⟨v15, e16, hf⟩ := pm_bd hf
        obtain ⟨v17, e18, hf⟩ := pm_bd hf
        have K19 := pw_t (by decide) K0 (wfX11_setEntry (pw_rf _) e18)
        obtain ⟨y20, e21, hf⟩ := pm_lt hf
        cases hf
        exact ih x0 x1 x2 x3 x5 x7 x9 y20 v17 K19  hi
set_option maxHeartbeats 4000000 in
set_option maxRecDepth 100000 in
theorem wfX11_copy {h0 h : pm_H} (K0 : pw_F WX11_copy h0 h) {a0 : Nat} {p1 : Int32} {p2 : Int32} {p3 : Int64} {p4 : Int64} {p5 : Int64}  {r : pm_H} (hf : fX11_copy h a0 p1 p2 p3 p4 p5 = some r) : pw_F WX11_copy h0 r := by
  unfold fX11_copy at hf
  by_cases c1 : p3 ≤ p4
  · have hf := pm_it hf c1
    obtain ⟨n, hn⟩ := pm_lim_iter hf
    exact (wlX11_copy n) a0 p1 p2 p3 p4 p5 0 0 h K0  hn
  · have hf := pm_ie hf c1
    obtain ⟨n, hn⟩ := pm_lim_iter hf
    exact (wlX11_copy n) a0 p1 p2 p3 p4 p5 1 0 h K0  hn
abbrev WX11_copyFrom : List Nat := [4352]
set_option maxHeartbeats 4000000 in
set_option maxRecDepth 100000 in
theorem wlX11_copyFrom {h0 : pm_H} {r : pm_H} : ∀ n : Nat, (∀ (x0 : Nat) (x1 : Nat) (x2 : Int32) (x3 : Int64) (x5 : Int64) (x7 : Int64) (x9 : Int64) (h : pm_H), pw_F WX11_copyFrom h0 h → pm_iter sX11_copyFrom n (x0, x1, x2, x3, x5, x7, x9, h) = some r → pw_F WX11_copyFrom h0 r) := by
  intro n
  induction n with
  | zero => exact fun _ _ _ _ _ _ _ _ _ hf => (by cases hf)
  | succ n ih =>
    refine fun x0 x1 x2 x3 x5 x7 x9 h K0 hf => ?_
    obtain ⟨y, hf, hi⟩ := pm_iter_s hf
    have hf : tX11_copyFrom_3 x0 x1 x2 x3 x5 x7 x9 h = some y := hf
    unfold tX11_copyFrom_3 at hf
    by_cases c1 : x7 ≤ x9
    · have hf := pm_it hf c1
      cases hf
      cases hi
      exact K0
    · have hf := pm_ie hf c1
      obtain ⟨v2, e3, hf⟩ := pm_bd hf
      obtain ⟨k4, hf⟩ := pm_if hf
      obtain ⟨v5, e6, hf⟩ := pm_bd hf
      have K7 := pw_t (by decide) K0 (wfX11_setEntry (pw_rf _) e6)
      obtain ⟨y8, e9, hf⟩ := pm_lt hf
      cases hf
      exact ih x0 x1 x2 x3 x5 x7 y8 v5 K7  hi
set_option maxHeartbeats 4000000 in
set_option maxRecDepth 100000 in
theorem wfX11_copyFrom {h0 h : pm_H} (K0 : pw_F WX11_copyFrom h0 h) {a0 : Nat} {p1 : Nat} {p2 : Int32} {p3 : Int64} {p4 : Int64} {p5 : Int64}  {r : pm_H} (hf : fX11_copyFrom h a0 p1 p2 p3 p4 p5 = some r) : pw_F WX11_copyFrom h0 r := by
  unfold fX11_copyFrom at hf
  obtain ⟨n, hn⟩ := pm_lim_iter hf
  exact (wlX11_copyFrom n) a0 p1 p2 p3 p4 p5 0 h K0  hn
abbrev WX12_feed : List Nat := [1537, 1538, 4224]
set_option maxHeartbeats 4000000 in
set_option maxRecDepth 100000 in
theorem wfX12_feed {h0 h : pm_H} (K0 : pw_F WX12_feed h0 h) {a0 : Nat} {p1 : Int32} {p2 : Int32} {p3 : Int32} {p4 : Int32} {p5 : Int32}  {r : (Int32 × pm_H)} (hf : fX12_feed h a0 p1 p2 p3 p4 p5 = some r) : pw_F WX12_feed h0 r.2 := by
  unfold fX12_feed at hf
  obtain ⟨k1, hf⟩ := pm_if hf
  by_cases c2 : (pm_I h a0 2) ≤ 40940
  · have hf := pm_it hf c2
    obtain ⟨v3, e4, hf⟩ := pm_bd hf
    have K5 := pw_t (by decide) K0 (wfX12_write (pw_rf _) e4)
    obtain ⟨k6, hf⟩ := pm_if hf
    obtain ⟨v7, e8, hf⟩ := pm_bd hf
    have K9 := pw_t (by decide) K5 (wfX12_write (pw_rf _) e8)
    obtain ⟨k10, hf⟩ := pm_if hf
    obtain ⟨v11, e12, hf⟩ := pm_bd hf
    have K13 := pw_t (by decide) K9 (wfX12_write (pw_rf _) e12)
    obtain ⟨k14, hf⟩ := pm_if hf
    obtain ⟨v15, e16, hf⟩ := pm_bd hf
    have K17 := pw_t (by decide) K13 (wfX12_write (pw_rf _) e16)
    obtain ⟨k18, hf⟩ := pm_if hf
    obtain ⟨v19, e20, hf⟩ := pm_bd hf
    have K21 := pw_t (by decide) K17 (wfX12_write (pw_rf _) e20)
    obtain ⟨k22, hf⟩ := pm_if hf
    obtain ⟨y23, e24, hf⟩ := pm_lt hf
    obtain ⟨y25, e26, hf⟩ := pm_lt hf
    cases hf
    exact (pw_sI (pw_sI K21 rfl k22 (by decide)) (pkI rfl) k22 (by decide))
  · have hf := pm_ie hf c2
    cases hf
    exact K0
abbrev WX12_offerOf : List Nat := [1549, 4352]
set_option maxHeartbeats 4000000 in
set_option maxRecDepth 100000 in
theorem wfX12_offerOf {h0 h : pm_H} (K0 : pw_F WX12_offerOf h0 h) {a0 : Nat} {p1 : Int32} {p2 : Int32}  {r : (Int32 × pm_H)} (hf : fX12_offerOf h a0 p1 p2 = some r) : pw_F WX12_offerOf h0 r.2 := by
  unfold fX12_offerOf at hf
  obtain ⟨k1, hf⟩ := pm_if hf
  obtain ⟨v2, e3, hf⟩ := pm_bd hf
  obtain ⟨v4, e5, hf⟩ := pm_bd hf
  have K6 := pw_t (by decide) K0 (wfX12_setItem (pw_rf _) e5)
  obtain ⟨k7, hf⟩ := pm_if hf
  obtain ⟨v8, e9, hf⟩ := pm_bd hf
  obtain ⟨v10, e11, hf⟩ := pm_bd hf
  have K12 := pw_t (by decide) K6 (wfX12_setItem (pw_rf _) e11)
  obtain ⟨k13, hf⟩ := pm_if hf
  obtain ⟨y14, e15, hf⟩ := pm_lt hf
  cases hf
  exact (pw_sI K12 rfl k13 (by decide))
abbrev WX12_poke : List Nat := [4224]
set_option maxHeartbeats 4000000 in
set_option maxRecDepth 100000 in
theorem wfX12_poke {h0 h : pm_H} (K0 : pw_F WX12_poke h0 h) {a0 : Nat} {p1 : Int32} {p2 : Int32} {p3 : Int32} {p4 : Int32}  {r : (Int32 × pm_H)} (hf : fX12_poke h a0 p1 p2 p3 p4 = some r) : pw_F WX12_poke h0 r.2 := by
  unfold fX12_poke at hf
  obtain ⟨k1, hf⟩ := pm_if hf
  obtain ⟨v2, e3, hf⟩ := pm_bd hf
  obtain ⟨k4, hf⟩ := pm_if hf
  obtain ⟨v5, e6, hf⟩ := pm_bd hf
  obtain ⟨k7, hf⟩ := pm_if hf
  obtain ⟨v8, e9, hf⟩ := pm_bd hf
  obtain ⟨y10, e11, hf⟩ := pm_lt hf
  obtain ⟨v12, e13, hf⟩ := pm_bd hf
  obtain ⟨k14, hf⟩ := pm_if hf
  obtain ⟨v15, e16, hf⟩ := pm_bd hf
  by_cases c17 : v15 = 0
  · have hf := pm_it hf c17
    obtain ⟨v18, e19, hf⟩ := pm_bd hf
    by_cases c20 : v18 = 2
    · have hf := pm_it hf c20
      obtain ⟨v21, e22, hf⟩ := pm_bd hf
      obtain ⟨k23, hf⟩ := pm_if hf
      obtain ⟨v24, e25, hf⟩ := pm_bd hf
      by_cases c26 : v24 = 0
      · have hf := pm_it hf c26
        cases hf
        exact K0
      · have hf := pm_ie hf c26
        obtain ⟨v27, e28, hf⟩ := pm_bd hf
        have K29 := pw_t (by decide) K0 (wfX6_setByte (pw_rf _) e28)
        cases hf
        exact K29
    · have hf := pm_ie hf c20
      cases hf
      exact K0
  · have hf := pm_ie hf c17
    cases hf
    exact K0
abbrev WX16_blockWord : List Nat := [2067]
set_option maxHeartbeats 4000000 in
set_option maxRecDepth 100000 in
theorem wfX16_blockWord {h0 h : pm_H} (K0 : pw_F WX16_blockWord h0 h) {a0 : Nat}  {r : (Int64 × pm_H)} (hf : fX16_blockWord h a0 = some r) : pw_F WX16_blockWord h0 r.2 := by
  unfold fX16_blockWord at hf
  obtain ⟨k1, hf⟩ := pm_if hf
  obtain ⟨v2, e3, hf⟩ := pm_bd hf
  obtain ⟨k4, hf⟩ := pm_if hf
  obtain ⟨v5, e6, hf⟩ := pm_bd hf
  by_cases c7 : v5 = 64
  · have hf := pm_it hf c7
    obtain ⟨y8, e9, hf⟩ := pm_lt hf
    cases hf
    exact (pw_sI K0 rfl k1 (by decide))
  · have hf := pm_ie hf c7
    obtain ⟨v10, e11, hf⟩ := pm_lt hf
    by_cases c12 : v10 = 0
    · have hf := pm_it hf c12
      obtain ⟨v13, e14, hf⟩ := pm_bd hf
      have K15 := pw_t (by decide) K0 (wfX16_signedWord (pw_rf _) e14)
      cases hf
      exact K15
    · have hf := pm_ie hf c12
      obtain ⟨y16, e17, hf⟩ := pm_lt hf
      cases hf
      exact (pw_sI K0 rfl k1 (by decide))
abbrev WX16_closes : List Nat := [2058, 2124, 2131, 2133, 2141, 2142, 2143, 2144, 4480]
set_option maxHeartbeats 4000000 in
set_option maxRecDepth 100000 in
theorem wlX16_closes {h0 : pm_H} {r : pm_H} : ∀ n : Nat, (∀ (x0 : Nat) (x2 : Int32) (x3 : Int32) (x4 : Int32) (h : pm_H), pw_F WX16_closes h0 h → pm_iter sX16_closes n (.inl (x0, x2, x3, x4, h)) = some r → pw_F WX16_closes h0 r) ∧ (∀ (x0 : Nat) (x2 : Int32) (x3 : Int32) (h : pm_H), pw_F WX16_closes h0 h → pm_iter sX16_closes n (.inr (x0, x2, x3, h)) = some r → pw_F WX16_closes h0 r) := by
  intro n
  induction n with
  | zero => exact ⟨fun _ _ _ _ _ _ hf => (by cases hf), fun _ _ _ _ _ hf => (by cases hf)⟩
  | succ n ih =>
    refine ⟨fun x0 x2 x3 x4 h K0 hf => ?_, ?_⟩
    · obtain ⟨y, hf, hi⟩ := pm_iter_s hf
      have hf : tX16_closes_142 x0 x2 x3 x4 h = some y := hf
      unfold tX16_closes_142 at hf
      by_cases c52 : x2 ≤ x4
      · have hf := pm_it hf c52
        obtain ⟨k53, hf⟩ := pm_if hf
        obtain ⟨y54, e55, hf⟩ := pm_lt hf
        obtain ⟨v56, e57, hf⟩ := pm_bd hf
        obtain ⟨y58, e59, hf⟩ := pm_lt hf
        obtain ⟨k60, hf⟩ := pm_if hf
        have k60b := (congrFun (pkI rfl) v56).symm.trans k60
        obtain ⟨u61, hf⟩ := pm_if hf
        obtain ⟨y62, e63, hf⟩ := pm_lt hf
        obtain ⟨v64, e65, hf⟩ := pm_bd hf
        obtain ⟨y66, e67, hf⟩ := pm_lt hf
        obtain ⟨k68, hf⟩ := pm_if hf
        have k68b := (congrFun (pkI (pkI rfl)) v64).symm.trans k68
        obtain ⟨u69, hf⟩ := pm_if hf
        obtain ⟨y70, e71, hf⟩ := pm_lt hf
        obtain ⟨v72, e73, hf⟩ := pm_bd hf
        obtain ⟨v74, e75, hf⟩ := pm_bd hf
        obtain ⟨k76, hf⟩ := pm_if hf
        have k76b := (congrFun (pkR (pkI (pkI rfl))) v74).symm.trans k76
        obtain ⟨u77, hf⟩ := pm_if hf
        obtain ⟨y78, e79, hf⟩ := pm_lt hf
        cases hf
        cases hi
        exact (pw_sI (pw_sR (pw_sI (pw_sI K0 rfl k53 (by decide)) (pkI rfl) k53 (by decide)) (pkI (pkI rfl)) k53 (by decide)) (pkR (pkI (pkI rfl))) k53 (by decide))
      · have hf := pm_ie hf c52
        obtain ⟨k80, hf⟩ := pm_if hf
        obtain ⟨v81, e82, hf⟩ := pm_bd hf
        obtain ⟨y83, e84, hf⟩ := pm_lt hf
        obtain ⟨k85, hf⟩ := pm_if hf
        obtain ⟨u86, hf⟩ := pm_if hf
        obtain ⟨y87, e88, hf⟩ := pm_lt hf
        obtain ⟨u89, hf⟩ := pm_if hf
        obtain ⟨y90, e91, hf⟩ := pm_lt hf
        cases hf
        exact ih.1 x0 x2 x3 y90 (pm_setL h v81 (((pm_I h x0 93) + x4).toNatClampNeg) y87) (pw_aL K0 rfl k85 (by decide) (by decide))  hi
    refine fun x0 x2 x3 h K0 hf => ?_
    obtain ⟨y, hf, hi⟩ := pm_iter_s hf
    have hf : tX16_closes_86 x0 x2 x3 h = some y := hf
    unfold tX16_closes_86 at hf
    by_cases c36 : x2 ≤ x3
    · have hf := pm_it hf c36
      cases hf
      cases hi
      exact K0
    · have hf := pm_ie hf c36
      obtain ⟨k37, hf⟩ := pm_if hf
      obtain ⟨v38, e39, hf⟩ := pm_bd hf
      obtain ⟨v40, e41, hf⟩ := pm_bd hf
      obtain ⟨y42, e43, hf⟩ := pm_lt hf
      obtain ⟨k44, hf⟩ := pm_if hf
      obtain ⟨u45, hf⟩ := pm_if hf
      obtain ⟨y46, e47, hf⟩ := pm_lt hf
      obtain ⟨k48, hf⟩ := pm_if hf
      obtain ⟨u49, hf⟩ := pm_if hf
      obtain ⟨y50, e51, hf⟩ := pm_lt hf
      cases hf
      exact ih.2 x0 x2 y50 (pm_setL h v38 x3.toNatClampNeg y46) (pw_aL K0 rfl k48 (by decide) (by decide))  hi
set_option maxHeartbeats 4000000 in
set_option maxRecDepth 100000 in
theorem wfX16_closes {h0 h : pm_H} (K0 : pw_F WX16_closes h0 h) {a0 : Nat}  {r : pm_H} (hf : fX16_closes h a0 = some r) : pw_F WX16_closes h0 r := by
  unfold fX16_closes at hf
  obtain ⟨k1, hf⟩ := pm_if hf
  obtain ⟨y2, e3, hf⟩ := pm_lt hf
  obtain ⟨y4, e5, hf⟩ := pm_lt hf
  obtain ⟨v6, e7, hf⟩ := pm_bd hf
  obtain ⟨y8, e9, hf⟩ := pm_lt hf
  obtain ⟨k10, hf⟩ := pm_if hf
  have k10b := (congrFun (pkI (pkI rfl)) v6).symm.trans k10
  obtain ⟨u11, hf⟩ := pm_if hf
  by_cases c12 : (pm_I (pm_setI (pm_setI h a0 96 y2) a0 94 y4) a0 96) ≤ (pm_I (pm_setI (pm_setI h a0 96 y2) a0 94 y4) v6 y8.toNatClampNeg)
  · have hf := pm_it hf c12
    obtain ⟨v13, e14, hf⟩ := pm_bd hf
    obtain ⟨y15, e16, hf⟩ := pm_lt hf
    obtain ⟨k17, hf⟩ := pm_if hf
    have k17b := (congrFun (pkI (pkI rfl)) v13).symm.trans k17
    obtain ⟨u18, hf⟩ := pm_if hf
    obtain ⟨y19, e20, hf⟩ := pm_lt hf
    obtain ⟨v21, e22, hf⟩ := pm_bd hf
    obtain ⟨y23, e24, hf⟩ := pm_lt hf
    by_cases c25 : (pm_I (pm_setI (pm_setI (pm_setI h a0 96 y2) a0 94 y4) a0 85 y23) a0 85) = 0
    · have hf := pm_it hf c25
      obtain ⟨n, hn⟩ := pm_lim_iter hf
      exact (wlX16_closes n).2 a0 v21 0 (pm_setI (pm_setI (pm_setI (pm_setI (pm_setI h a0 96 y2) a0 94 y4) a0 85 y23) a0 76 2) a0 83 v21) (pw_sI (pw_sI (pw_sI (pw_sI (pw_sI K0 rfl k1 (by decide)) (pkI rfl) k1 (by decide)) (pkI (pkI rfl)) k1 (by decide)) (pkI (pkI (pkI rfl))) k1 (by decide)) (pkI (pkI (pkI (pkI rfl)))) k1 (by decide))  hn
    · have hf := pm_ie hf c25
      obtain ⟨y26, e27, hf⟩ := pm_lt hf
      obtain ⟨v28, e29, hf⟩ := pm_bd hf
      obtain ⟨y30, e31, hf⟩ := pm_lt hf
      obtain ⟨k32, hf⟩ := pm_if hf
      have k32b := (congrFun (pkI (pkI (pkI rfl))) v28).symm.trans k32
      obtain ⟨u33, hf⟩ := pm_if hf
      obtain ⟨y34, e35, hf⟩ := pm_lt hf
      obtain ⟨n, hn⟩ := pm_lim_iter hf
      exact (wlX16_closes n).1 a0 v21 y26 0 (pm_setI (pm_setI (pm_setI (pm_setI h a0 96 y2) a0 94 y4) a0 85 y23) a0 93 y34) (pw_sI (pw_sI (pw_sI (pw_sI K0 rfl k1 (by decide)) (pkI rfl) k1 (by decide)) (pkI (pkI rfl)) k1 (by decide)) (pkI (pkI (pkI rfl))) k1 (by decide))  hn
  · have hf := pm_ie hf c12
    cases hf
    exact (pw_sI (pw_sI K0 rfl k1 (by decide)) (pkI rfl) k1 (by decide))
abbrev WX16_constant : List Nat := [2067]
set_option maxHeartbeats 4000000 in
set_option maxRecDepth 100000 in
theorem wlX16_constant {h0 : pm_H} {r : (Int64 × pm_H)} : ∀ n : Nat, (∀ (x0 : Nat) (x1 : Int32) (x3 : Int64) (h : pm_H), pw_F WX16_constant h0 h → pm_iter sX16_constant n (x0, x1, x3, h) = some r → pw_F WX16_constant h0 r.2) := by
  intro n
  induction n with
  | zero => exact fun _ _ _ _ _ hf => (by cases hf)
  | succ n ih =>
    refine fun x0 x1 x3 h K0 hf => ?_
    obtain ⟨y, hf, hi⟩ := pm_iter_s hf
    have hf : tX16_constant_7 x0 x1 x3 h = some y := hf
    unfold tX16_constant_7 at hf
    obtain ⟨k2, hf⟩ := pm_if hf
    obtain ⟨v3, e4, hf⟩ := pm_bd hf
    obtain ⟨k5, hf⟩ := pm_if hf
    obtain ⟨v6, e7, hf⟩ := pm_bd hf
    by_cases c8 : v6 = 11
    · have hf := pm_it hf c8
      obtain ⟨y9, e10, hf⟩ := pm_lt hf
      cases hf
      cases hi
      exact (pw_sI K0 rfl k2 (by decide))
    · have hf := pm_ie hf c8
      obtain ⟨v11, e12, hf⟩ := pm_bd hf
      obtain ⟨y13, e14, hf⟩ := pm_lt hf
      by_cases c15 : v11 = 65
      · have hf := pm_it hf c15
        by_cases c16 : v11 = 65
        · have hf := pm_it hf c16
          obtain ⟨v17, e18, hf⟩ := pm_bd hf
          have K19 := pw_t (by decide) (pw_sI K0 rfl k2 (by decide)) (wfX16_signedWord (pw_rf _) e18)
          obtain ⟨y20, e21, hf⟩ := pm_lt hf
          cases hf
          exact ih x0 x1 y20 v17.2 K19  hi
        · have hf := pm_ie hf c16
          obtain ⟨v22, e23, hf⟩ := pm_bd hf
          have K24 := pw_t (by decide) (pw_sI K0 rfl k2 (by decide)) (wfX16_signedWord (pw_rf _) e23)
          cases hf
          exact ih x0 x1 v22.1 v22.2 K24  hi
      · have hf := pm_ie hf c15
        by_cases c25 : v11 = 66
        · have hf := pm_it hf c25
          by_cases c26 : v11 = 65
          · have hf := pm_it hf c26
            obtain ⟨v27, e28, hf⟩ := pm_bd hf
            have K29 := pw_t (by decide) (pw_sI K0 rfl k2 (by decide)) (wfX16_signedWord (pw_rf _) e28)
            obtain ⟨y30, e31, hf⟩ := pm_lt hf
            cases hf
            exact ih x0 x1 y30 v27.2 K29  hi
          · have hf := pm_ie hf c26
            obtain ⟨v32, e33, hf⟩ := pm_bd hf
            have K34 := pw_t (by decide) (pw_sI K0 rfl k2 (by decide)) (wfX16_signedWord (pw_rf _) e33)
            cases hf
            exact ih x0 x1 v32.1 v32.2 K34  hi
        · have hf := pm_ie hf c25
          by_cases c35 : v11 = 67
          · have hf := pm_it hf c35
            by_cases c36 : v11 = 67
            · have hf := pm_it hf c36
              obtain ⟨v37, e38, hf⟩ := pm_bd hf
              have K39 := pw_t (by decide) (pw_sI K0 rfl k2 (by decide)) (wfX16_bytesAt (pw_rf _) e38)
              cases hf
              exact ih x0 x1 v37.1 v37.2 K39  hi
            · have hf := pm_ie hf c36
              obtain ⟨v40, e41, hf⟩ := pm_bd hf
              have K42 := pw_t (by decide) (pw_sI K0 rfl k2 (by decide)) (wfX16_bytesAt (pw_rf _) e41)
              cases hf
              exact ih x0 x1 v40.1 v40.2 K42  hi
          · have hf := pm_ie hf c35
            by_cases c43 : v11 = 68
            · have hf := pm_it hf c43
              by_cases c44 : v11 = 67
              · have hf := pm_it hf c44
                obtain ⟨v45, e46, hf⟩ := pm_bd hf
                have K47 := pw_t (by decide) (pw_sI K0 rfl k2 (by decide)) (wfX16_bytesAt (pw_rf _) e46)
                cases hf
                exact ih x0 x1 v45.1 v45.2 K47  hi
              · have hf := pm_ie hf c44
                obtain ⟨v48, e49, hf⟩ := pm_bd hf
                have K50 := pw_t (by decide) (pw_sI K0 rfl k2 (by decide)) (wfX16_bytesAt (pw_rf _) e49)
                cases hf
                exact ih x0 x1 v48.1 v48.2 K50  hi
            · have hf := pm_ie hf c43
              by_cases c51 : v11 = 208
              · have hf := pm_it hf c51
                obtain ⟨y52, e53, hf⟩ := pm_lt hf
                cases hf
                exact ih x0 x1 (-1) (pm_setI (pm_setI h x0 19 y13) x0 19 y52) (pw_sI (pw_sI K0 rfl k2 (by decide)) (pkI rfl) k2 (by decide))  hi
              · have hf := pm_ie hf c51
                obtain ⟨v54, e55, hf⟩ := pm_bd hf
                have K56 := pw_t (by decide) (pw_sI K0 rfl k2 (by decide)) (wfX16_word (pw_rf _) e55)
                obtain ⟨y57, e58, hf⟩ := pm_lt hf
                by_cases c59 : v11 = 210
                · have hf := pm_it hf c59
                  obtain ⟨k60, hf⟩ := pm_if hf
                  obtain ⟨v61, e62, hf⟩ := pm_bd hf
                  obtain ⟨k63, hf⟩ := pm_if hf
                  obtain ⟨u64, hf⟩ := pm_if hf
                  obtain ⟨y65, e66, hf⟩ := pm_lt hf
                  cases hf
                  exact ih x0 x1 y65 v54.2 K56  hi
                · have hf := pm_ie hf c59
                  obtain ⟨k67, hf⟩ := pm_if hf
                  obtain ⟨v68, e69, hf⟩ := pm_bd hf
                  obtain ⟨v70, e71, hf⟩ := pm_bd hf
                  obtain ⟨k72, hf⟩ := pm_if hf
                  obtain ⟨u73, hf⟩ := pm_if hf
                  obtain ⟨y74, e75, hf⟩ := pm_lt hf
                  obtain ⟨k76, hf⟩ := pm_if hf
                  obtain ⟨u77, hf⟩ := pm_if hf
                  obtain ⟨y78, e79, hf⟩ := pm_lt hf
                  cases hf
                  exact ih x0 x1 y78 v54.2 K56  hi
set_option maxHeartbeats 4000000 in
set_option maxRecDepth 100000 in
theorem wfX16_constant {h0 h : pm_H} (K0 : pw_F WX16_constant h0 h) {a0 : Nat} {p1 : Int32} {p2 : Int32}  {r : (Int64 × pm_H)} (hf : fX16_constant h a0 p1 p2 = some r) : pw_F WX16_constant h0 r.2 := by
  unfold fX16_constant at hf
  obtain ⟨k1, hf⟩ := pm_if hf
  obtain ⟨n, hn⟩ := pm_lim_iter hf
  exact (wlX16_constant n) a0 p1 0 (pm_setI h a0 19 p2) (pw_sI K0 rfl k1 (by decide))  hn
abbrev WX16_constantType : List Nat := [2067]
set_option maxHeartbeats 4000000 in
set_option maxRecDepth 100000 in
theorem wfX16_constantType_b34 {h0 h : pm_H} (K0 : pw_F WX16_constantType h0 h) {x0 : Nat} {x1 : Int32} {x2 : Int32}  {r : (Int32 × pm_H)} (hf : fX16_constantType_b34 h x0 x1 x2 = some r) : pw_F WX16_constantType h0 r.2 := by
  unfold fX16_constantType_b34 at hf
  by_cases c11 : x2 = 208
  · have hf := pm_it hf c11
    obtain ⟨k12, hf⟩ := pm_if hf
    obtain ⟨v13, e14, hf⟩ := pm_bd hf
    obtain ⟨k15, hf⟩ := pm_if hf
    obtain ⟨v16, e17, hf⟩ := pm_bd hf
    cases hf
    exact K0
  · have hf := pm_ie hf c11
    by_cases c18 : x2 = 210
    · have hf := pm_it hf c18
      cases hf
      exact K0
    · have hf := pm_ie hf c18
      by_cases c19 : x2 = 35
      · have hf := pm_it hf c19
        obtain ⟨k20, hf⟩ := pm_if hf
        obtain ⟨v21, e22, hf⟩ := pm_bd hf
        have K23 := pw_t (by decide) K0 (wfX16_word (pw_rf _) e22)
        obtain ⟨k24, hf⟩ := pm_if hf
        obtain ⟨v25, e26, hf⟩ := pm_bd hf
        obtain ⟨k27, hf⟩ := pm_if hf
        obtain ⟨v28, e29, hf⟩ := pm_bd hf
        by_cases c30 : v28.toInt64 ≤ v21.1
        · have hf := pm_it hf c30
          cases hf
          exact K23
        · have hf := pm_ie hf c30
          obtain ⟨v31, e32, hf⟩ := pm_bd hf
          by_cases c33 : v31 = 0
          · have hf := pm_it hf c33
            obtain ⟨v34, e35, hf⟩ := pm_bd hf
            cases hf
            exact K23
          · have hf := pm_ie hf c33
            cases hf
            exact K23
      · have hf := pm_ie hf c19
        cases hf
        exact K0
set_option maxHeartbeats 4000000 in
set_option maxRecDepth 100000 in
theorem wfX16_constantType {h0 h : pm_H} (K0 : pw_F WX16_constantType h0 h) {a0 : Nat} {p1 : Int32}  {r : (Int32 × pm_H)} (hf : fX16_constantType h a0 p1 = some r) : pw_F WX16_constantType h0 r.2 := by
  unfold fX16_constantType at hf
  obtain ⟨k1, hf⟩ := pm_if hf
  obtain ⟨v2, e3, hf⟩ := pm_bd hf
  obtain ⟨k4, hf⟩ := pm_if hf
  obtain ⟨v5, e6, hf⟩ := pm_bd hf
  obtain ⟨y7, e8, hf⟩ := pm_lt hf
  by_cases c9 : v5 < 65
  · have hf := pm_it hf c9
    exact wfX16_constantType_b34 (pw_sI K0 rfl k1 (by decide))  hf
  · have hf := pm_ie hf c9
    by_cases c10 : 68 < v5
    · have hf := pm_it hf c10
      exact wfX16_constantType_b34 (pw_sI K0 rfl k1 (by decide))  hf
    · have hf := pm_ie hf c10
      cases hf
      exact (pw_sI K0 rfl k1 (by decide))
abbrev WX16_copiesData : List Nat := [4224]
set_option maxHeartbeats 4000000 in
set_option maxRecDepth 100000 in
theorem wlX16_copiesData {h0 : pm_H} {r : (Int32 × pm_H)} : ∀ n : Nat, (∀ (x0 : Nat) (x2 : Int32) (x3 : Int32) (x4 : Int64) (x6 : Int64) (x8 : Int64) (x10 : Nat) (x12 : Int32) (h : pm_H), pw_F WX16_copiesData h0 h → pm_iter sX16_copiesData n (x0, x2, x3, x4, x6, x8, x10, x12, h) = some r → pw_F WX16_copiesData h0 r.2) := by
  intro n
  induction n with
  | zero => exact fun _ _ _ _ _ _ _ _ _ _ hf => (by cases hf)
  | succ n ih =>
    refine fun x0 x2 x3 x4 x6 x8 x10 x12 h K0 hf => ?_
    obtain ⟨y, hf, hi⟩ := pm_iter_s hf
    have hf : tX16_copiesData_77 x0 x2 x3 x4 x6 x8 x10 x12 h = some y := hf
    unfold tX16_copiesData_77 at hf
    by_cases c40 : x8 ≤ x12.toInt64
    · have hf := pm_it hf c40
      cases hf
      cases hi
      exact K0
    · have hf := pm_ie hf c40
      obtain ⟨k41, hf⟩ := pm_if hf
      obtain ⟨v42, e43, hf⟩ := pm_bd hf
      obtain ⟨v44, e45, hf⟩ := pm_bd hf
      obtain ⟨k46, hf⟩ := pm_if hf
      obtain ⟨u47, hf⟩ := pm_if hf
      obtain ⟨y48, e49, hf⟩ := pm_lt hf
      obtain ⟨k50, hf⟩ := pm_if hf
      obtain ⟨u51, hf⟩ := pm_if hf
      obtain ⟨k52, hf⟩ := pm_if hf
      obtain ⟨v53, e54, hf⟩ := pm_bd hf
      have K55 := pw_t (by decide) K0 (wfX16_sets (pw_rf _) e54)
      obtain ⟨y56, e57, hf⟩ := pm_lt hf
      cases hf
      exact ih x0 x2 x3 x4 x6 x8 x10 y56 v53 K55  hi
set_option maxHeartbeats 4000000 in
set_option maxRecDepth 100000 in
theorem wfX16_copiesData {h0 h : pm_H} (K0 : pw_F WX16_copiesData h0 h) {a0 : Nat} {p1 : Int32} {p2 : Int32} {p3 : Int32} {p4 : Int64} {p5 : Int64} {p6 : Int64}  {r : (Int32 × pm_H)} (hf : fX16_copiesData h a0 p1 p2 p3 p4 p5 p6 = some r) : pw_F WX16_copiesData h0 r.2 := by
  unfold fX16_copiesData at hf
  obtain ⟨k1, hf⟩ := pm_if hf
  obtain ⟨v2, e3, hf⟩ := pm_bd hf
  obtain ⟨v4, e5, hf⟩ := pm_bd hf
  obtain ⟨k6, hf⟩ := pm_if hf
  obtain ⟨u7, hf⟩ := pm_if hf
  obtain ⟨y8, e9, hf⟩ := pm_lt hf
  obtain ⟨k10, hf⟩ := pm_if hf
  obtain ⟨u11, hf⟩ := pm_if hf
  obtain ⟨v12, e13, hf⟩ := pm_bd hf
  obtain ⟨v14, e15, hf⟩ := pm_bd hf
  obtain ⟨y16, e17, hf⟩ := pm_lt hf
  obtain ⟨k18, hf⟩ := pm_if hf
  obtain ⟨u19, hf⟩ := pm_if hf
  by_cases c20 : (pm_I h v14 y16.toNatClampNeg) = 0
  · have hf := pm_it hf c20
    by_cases c21 : ((0 : Int32).toInt64) < (p5 + p6)
    · have hf := pm_it hf c21
      cases hf
      exact K0
    · have hf := pm_ie hf c21
      obtain ⟨v22, e23, hf⟩ := pm_bd hf
      obtain ⟨k24, hf⟩ := pm_if hf
      obtain ⟨u25, hf⟩ := pm_if hf
      by_cases c26 : (p4 + p6) ≤ (65536 * ((pm_I h v22 p3.toNatClampNeg).toInt64))
      · have hf := pm_it hf c26
        obtain ⟨n, hn⟩ := pm_lim_iter hf
        exact (wlX16_copiesData n) a0 p2 p3 p4 p5 p6 v12 0 h K0  hn
      · have hf := pm_ie hf c26
        cases hf
        exact K0
  · have hf := pm_ie hf c20
    obtain ⟨k27, hf⟩ := pm_if hf
    obtain ⟨v28, e29, hf⟩ := pm_bd hf
    obtain ⟨k30, hf⟩ := pm_if hf
    obtain ⟨u31, hf⟩ := pm_if hf
    obtain ⟨y32, e33, hf⟩ := pm_lt hf
    by_cases c34 : y32.toInt64 < (p5 + p6)
    · have hf := pm_it hf c34
      cases hf
      exact K0
    · have hf := pm_ie hf c34
      obtain ⟨v35, e36, hf⟩ := pm_bd hf
      obtain ⟨k37, hf⟩ := pm_if hf
      obtain ⟨u38, hf⟩ := pm_if hf
      by_cases c39 : (p4 + p6) ≤ (65536 * ((pm_I h v35 p3.toNatClampNeg).toInt64))
      · have hf := pm_it hf c39
        obtain ⟨n, hn⟩ := pm_lim_iter hf
        exact (wlX16_copiesData n) a0 p2 p3 p4 p5 p6 v12 0 h K0  hn
      · have hf := pm_ie hf c39
        cases hf
        exact K0
abbrev WX16_divided : List Nat := [2081]
set_option maxHeartbeats 4000000 in
set_option maxRecDepth 100000 in
theorem wfX16_divided_b58 {h0 h : pm_H} (K0 : pw_F WX16_divided h0 h) {x1 : Int32} {x2 : Int64} {x4 : Int64}  {r : (Int64 × pm_H)} (hf : fX16_divided_b58 h x1 x2 x4 = some r) : pw_F WX16_divided h0 r.2 := by
  unfold fX16_divided_b58 at hf
  by_cases c15 : x1 = 0
  · have hf := pm_it hf c15
    obtain ⟨u16, hf⟩ := pm_if hf
    cases hf
    exact K0
  · have hf := pm_ie hf c15
    by_cases c17 : x1 = 2
    · have hf := pm_it hf c17
      obtain ⟨u18, hf⟩ := pm_if hf
      cases hf
      exact K0
    · have hf := pm_ie hf c17
      by_cases c19 : x1 = 1
      · have hf := pm_it hf c19
        obtain ⟨v20, e21, hf⟩ := pm_bd hf
        cases hf
        exact K0
      · have hf := pm_ie hf c19
        obtain ⟨v22, e23, hf⟩ := pm_bd hf
        cases hf
        exact K0
set_option maxHeartbeats 4000000 in
set_option maxRecDepth 100000 in
theorem wfX16_divided_b42 {h0 h : pm_H} (K0 : pw_F WX16_divided h0 h) {x1 : Int32} {x2 : Int64} {x4 : Int64}  {r : (Int64 × pm_H)} (hf : fX16_divided_b42 h x1 x2 x4 = some r) : pw_F WX16_divided h0 r.2 := by
  unfold fX16_divided_b42 at hf
  by_cases c13 : x1 = 2
  · have hf := pm_it hf c13
    by_cases c14 : x4 = (-1)
    · have hf := pm_it hf c14
      cases hf
      exact K0
    · have hf := pm_ie hf c14
      exact wfX16_divided_b58 K0  hf
  · have hf := pm_ie hf c13
    exact wfX16_divided_b58 K0  hf
set_option maxHeartbeats 4000000 in
set_option maxRecDepth 100000 in
theorem wfX16_divided {h0 h : pm_H} (K0 : pw_F WX16_divided h0 h) {a0 : Nat} {p1 : Int32} {p2 : Int64} {p3 : Int64} {p4 : Int64}  {r : (Int64 × pm_H)} (hf : fX16_divided h a0 p1 p2 p3 p4 = some r) : pw_F WX16_divided h0 r.2 := by
  unfold fX16_divided at hf
  by_cases c1 : p3 = 0
  · have hf := pm_it hf c1
    obtain ⟨k2, hf⟩ := pm_if hf
    obtain ⟨v3, e4, hf⟩ := pm_bd hf
    have K5 := pw_t (by decide) K0 (wfX16_traps (pw_rf _) e4)
    cases hf
    exact K5
  · have hf := pm_ie hf c1
    by_cases c6 : p1 = 0
    · have hf := pm_it hf c6
      by_cases c7 : p3 = (-1)
      · have hf := pm_it hf c7
        by_cases c8 : p2 = p4
        · have hf := pm_it hf c8
          obtain ⟨k9, hf⟩ := pm_if hf
          obtain ⟨v10, e11, hf⟩ := pm_bd hf
          have K12 := pw_t (by decide) K0 (wfX16_traps (pw_rf _) e11)
          cases hf
          exact K12
        · have hf := pm_ie hf c8
          cases hf
          exact K0
      · have hf := pm_ie hf c7
        exact wfX16_divided_b42 K0  hf
    · have hf := pm_ie hf c6
      exact wfX16_divided_b42 K0  hf
abbrev WX16_entry : List Nat := [2124, 2125, 2141, 4352, 4480]
set_option maxHeartbeats 4000000 in
set_option maxRecDepth 100000 in
theorem wfX16_entry_b14 {h0 h : pm_H} (K0 : pw_F WX16_entry h0 h) {x0 : Nat} {x1 : Int32} {x2 : Int32} {s0 : Int64}  {r : pm_H} (hf : fX16_entry_b14 h x0 x1 x2 s0 = some r) : pw_F WX16_entry h0 r := by
  unfold fX16_entry_b14 at hf
  obtain ⟨k6, hf⟩ := pm_if hf
  obtain ⟨v7, e8, hf⟩ := pm_bd hf
  have K9 := pw_t (by decide) K0 (wfX16_pop (pw_rf _) e8)
  obtain ⟨k10, hf⟩ := pm_if hf
  obtain ⟨v11, e12, hf⟩ := pm_bd hf
  obtain ⟨k13, hf⟩ := pm_if hf
  obtain ⟨u14, hf⟩ := pm_if hf
  by_cases c15 : v7.1 < ((pm_I v7.2 v11 x2.toNatClampNeg).toInt64)
  · have hf := pm_it hf c15
    by_cases c16 : x1 = 38
    · have hf := pm_it hf c16
      obtain ⟨v17, e18, hf⟩ := pm_bd hf
      obtain ⟨k19, hf⟩ := pm_if hf
      obtain ⟨u20, hf⟩ := pm_if hf
      cases hf
      exact (pw_aI K9 rfl k19 (by decide) (by decide))
    · have hf := pm_ie hf c16
      obtain ⟨v21, e22, hf⟩ := pm_bd hf
      obtain ⟨y23, e24, hf⟩ := pm_lt hf
      obtain ⟨k25, hf⟩ := pm_if hf
      obtain ⟨u26, hf⟩ := pm_if hf
      obtain ⟨v27, e28, hf⟩ := pm_bd hf
      have K29 := pw_t (by decide) K9 (wfX16_push (pw_rf _) e28)
      cases hf
      exact K29
  · have hf := pm_ie hf c15
    obtain ⟨v30, e31, hf⟩ := pm_bd hf
    have K32 := pw_t (by decide) K9 (wfX16_endsBy (pw_rf _) e31)
    cases hf
    exact K32
set_option maxHeartbeats 4000000 in
set_option maxRecDepth 100000 in
theorem wfX16_entry {h0 h : pm_H} (K0 : pw_F WX16_entry h0 h) {a0 : Nat} {p1 : Int32} {p2 : Int32}  {r : pm_H} (hf : fX16_entry h a0 p1 p2 = some r) : pw_F WX16_entry h0 r := by
  unfold fX16_entry at hf
  by_cases c1 : p1 = 38
  · have hf := pm_it hf c1
    obtain ⟨k2, hf⟩ := pm_if hf
    obtain ⟨v3, e4, hf⟩ := pm_bd hf
    have K5 := pw_t (by decide) K0 (wfX16_pop (pw_rf _) e4)
    exact wfX16_entry_b14 K5  hf
  · have hf := pm_ie hf c1
    exact wfX16_entry_b14 K0  hf
abbrev WX16_feed : List Nat := [2049, 2050, 4224]
set_option maxHeartbeats 4000000 in
set_option maxRecDepth 100000 in
theorem wfX16_feed {h0 h : pm_H} (K0 : pw_F WX16_feed h0 h) {a0 : Nat} {p1 : Int32} {p2 : Int32} {p3 : Int32} {p4 : Int32} {p5 : Int32}  {r : (Int32 × pm_H)} (hf : fX16_feed h a0 p1 p2 p3 p4 p5 = some r) : pw_F WX16_feed h0 r.2 := by
  unfold fX16_feed at hf
  obtain ⟨k1, hf⟩ := pm_if hf
  by_cases c2 : ((pm_I h a0 2) + 20) ≤ 40960
  · have hf := pm_it hf c2
    obtain ⟨y3, e4, hf⟩ := pm_lt hf
    obtain ⟨v5, e6, hf⟩ := pm_bd hf
    have K7 := pw_t (by decide) (pw_sI K0 rfl k1 (by decide)) (wfX16_puts (pw_rf _) e6)
    obtain ⟨k8, hf⟩ := pm_if hf
    obtain ⟨v9, e10, hf⟩ := pm_bd hf
    have K11 := pw_t (by decide) K7 (wfX16_puts (pw_rf _) e10)
    obtain ⟨k12, hf⟩ := pm_if hf
    obtain ⟨v13, e14, hf⟩ := pm_bd hf
    have K15 := pw_t (by decide) K11 (wfX16_puts (pw_rf _) e14)
    obtain ⟨k16, hf⟩ := pm_if hf
    obtain ⟨v17, e18, hf⟩ := pm_bd hf
    have K19 := pw_t (by decide) K15 (wfX16_puts (pw_rf _) e18)
    obtain ⟨k20, hf⟩ := pm_if hf
    obtain ⟨v21, e22, hf⟩ := pm_bd hf
    have K23 := pw_t (by decide) K19 (wfX16_puts (pw_rf _) e22)
    obtain ⟨k24, hf⟩ := pm_if hf
    cases hf
    exact K23
  · have hf := pm_ie hf c2
    cases hf
    exact K0
abbrev WX16_give : List Nat := [2124]
set_option maxHeartbeats 4000000 in
set_option maxRecDepth 100000 in
theorem wfX16_give {h0 h : pm_H} (K0 : pw_F WX16_give h0 h) {a0 : Nat}  {r : (Int32 × pm_H)} (hf : fX16_give h a0 = some r) : pw_F WX16_give h0 r.2 := by
  unfold fX16_give at hf
  obtain ⟨k1, hf⟩ := pm_if hf
  obtain ⟨v2, e3, hf⟩ := pm_bd hf
  by_cases c4 : v2 = 0
  · have hf := pm_it hf c4
    cases hf
    exact K0
  · have hf := pm_ie hf c4
    cases hf
    exact (pw_sI K0 rfl k1 (by decide))
abbrev WX16_isNamedFurther : List Nat := [2067]
set_option maxHeartbeats 4000000 in
set_option maxRecDepth 100000 in
theorem wfX16_isNamedFurther_b53 {h0 h : pm_H} (K0 : pw_F WX16_isNamedFurther h0 h) {x0 : Nat} {x1 : Int32} {x2 : Int64} {s0 : Int64}  {r : (Int32 × pm_H)} (hf : fX16_isNamedFurther_b53 h x0 x1 x2 s0 = some r) : pw_F WX16_isNamedFurther h0 r.2 := by
  unfold fX16_isNamedFurther_b53 at hf
  by_cases c18 : x1 = 8
  · have hf := pm_it hf c18
    obtain ⟨k19, hf⟩ := pm_if hf
    obtain ⟨v20, e21, hf⟩ := pm_bd hf
    obtain ⟨k22, hf⟩ := pm_if hf
    by_cases c23 : ((pm_I h v20 44).toInt64) ≤ x2
    · have hf := pm_it hf c23
      cases hf
      exact K0
    · have hf := pm_ie hf c23
      obtain ⟨v24, e25, hf⟩ := pm_bd hf
      by_cases c26 : v24 ≤ 0
      · have hf := pm_it hf c26
        cases hf
        exact K0
      · have hf := pm_ie hf c26
        cases hf
        exact K0
  have hf := pm_ie hf c18
  by_cases c27 : x1 = 9
  · have hf := pm_it hf c27
    obtain ⟨k28, hf⟩ := pm_if hf
    obtain ⟨v29, e30, hf⟩ := pm_bd hf
    obtain ⟨k31, hf⟩ := pm_if hf
    by_cases c32 : ((pm_I h v29 44).toInt64) ≤ x2
    · have hf := pm_it hf c32
      cases hf
      exact K0
    · have hf := pm_ie hf c32
      cases hf
      exact K0
  have hf := pm_ie hf c27
  by_cases c33 : x1 = 10
  · have hf := pm_it hf c33
    obtain ⟨k34, hf⟩ := pm_if hf
    obtain ⟨v35, e36, hf⟩ := pm_bd hf
    obtain ⟨k37, hf⟩ := pm_if hf
    obtain ⟨v38, e39, hf⟩ := pm_bd hf
    by_cases c40 : v38 ≤ 0
    · have hf := pm_it hf c40
      cases hf
      exact K0
    · have hf := pm_ie hf c40
      cases hf
      exact K0
  have hf := pm_ie hf c33
  by_cases c41 : x1 = 11
  · have hf := pm_it hf c41
    obtain ⟨k42, hf⟩ := pm_if hf
    obtain ⟨v43, e44, hf⟩ := pm_bd hf
    obtain ⟨k45, hf⟩ := pm_if hf
    obtain ⟨v46, e47, hf⟩ := pm_bd hf
    by_cases c48 : v46 ≤ 0
    · have hf := pm_it hf c48
      cases hf
      exact K0
    · have hf := pm_ie hf c48
      cases hf
      exact K0
  have hf := pm_ie hf c41
  by_cases c49 : x1 = 12
  · have hf := pm_it hf c49
    obtain ⟨k50, hf⟩ := pm_if hf
    obtain ⟨v51, e52, hf⟩ := pm_bd hf
    obtain ⟨k53, hf⟩ := pm_if hf
    by_cases c54 : ((pm_I h v51 34).toInt64) ≤ x2
    · have hf := pm_it hf c54
      cases hf
      exact K0
    · have hf := pm_ie hf c54
      obtain ⟨v55, e56, hf⟩ := pm_bd hf
      by_cases c57 : v55.toInt64 ≤ s0
      · have hf := pm_it hf c57
        cases hf
        exact K0
      · have hf := pm_ie hf c57
        obtain ⟨v58, e59, hf⟩ := pm_bd hf
        obtain ⟨k60, hf⟩ := pm_if hf
        obtain ⟨u61, hf⟩ := pm_if hf
        obtain ⟨v62, e63, hf⟩ := pm_bd hf
        by_cases c64 : (pm_I h v58 x2.toInt32.toNatClampNeg) = v62
        · have hf := pm_it hf c64
          cases hf
          exact K0
        · have hf := pm_ie hf c64
          cases hf
          exact K0
  have hf := pm_ie hf c49
  by_cases c65 : x1 = 13
  · have hf := pm_it hf c65
    obtain ⟨k66, hf⟩ := pm_if hf
    obtain ⟨v67, e68, hf⟩ := pm_bd hf
    obtain ⟨k69, hf⟩ := pm_if hf
    by_cases c70 : ((pm_I h v67 34).toInt64) ≤ x2
    · have hf := pm_it hf c70
      cases hf
      exact K0
    · have hf := pm_ie hf c70
      cases hf
      exact K0
  have hf := pm_ie hf c65
  by_cases c71 : x1 = 14
  · have hf := pm_it hf c71
    obtain ⟨k72, hf⟩ := pm_if hf
    obtain ⟨v73, e74, hf⟩ := pm_bd hf
    obtain ⟨k75, hf⟩ := pm_if hf
    obtain ⟨v76, e77, hf⟩ := pm_bd hf
    by_cases c78 : v76.toInt64 ≤ x2
    · have hf := pm_it hf c78
      cases hf
      exact K0
    · have hf := pm_ie hf c78
      obtain ⟨v79, e80, hf⟩ := pm_bd hf
      by_cases c81 : v79.toInt64 ≤ s0
      · have hf := pm_it hf c81
        cases hf
        exact K0
      · have hf := pm_ie hf c81
        obtain ⟨v82, e83, hf⟩ := pm_bd hf
        obtain ⟨v84, e85, hf⟩ := pm_bd hf
        by_cases c86 : v82 = v84
        · have hf := pm_it hf c86
          cases hf
          exact K0
        · have hf := pm_ie hf c86
          cases hf
          exact K0
  have hf := pm_ie hf c71
  by_cases c87 : x1 = 15
  · have hf := pm_it hf c87
    obtain ⟨k88, hf⟩ := pm_if hf
    obtain ⟨v89, e90, hf⟩ := pm_bd hf
    obtain ⟨k91, hf⟩ := pm_if hf
    obtain ⟨v92, e93, hf⟩ := pm_bd hf
    by_cases c94 : v92.toInt64 ≤ x2
    · have hf := pm_it hf c94
      cases hf
      exact K0
    · have hf := pm_ie hf c94
      cases hf
      exact K0
  have hf := pm_ie hf c87
  by_cases c95 : x1 = 16
  · have hf := pm_it hf c95
    obtain ⟨k96, hf⟩ := pm_if hf
    obtain ⟨v97, e98, hf⟩ := pm_bd hf
    obtain ⟨k99, hf⟩ := pm_if hf
    obtain ⟨v100, e101, hf⟩ := pm_bd hf
    by_cases c102 : v100.toInt64 ≤ x2
    · have hf := pm_it hf c102
      cases hf
      exact K0
    · have hf := pm_ie hf c102
      cases hf
      exact K0
  have hf := pm_ie hf c95
  by_cases c103 : x1 = 17
  · have hf := pm_it hf c103
    obtain ⟨k104, hf⟩ := pm_if hf
    obtain ⟨v105, e106, hf⟩ := pm_bd hf
    obtain ⟨k107, hf⟩ := pm_if hf
    obtain ⟨v108, e109, hf⟩ := pm_bd hf
    by_cases c110 : v108.toInt64 ≤ x2
    · have hf := pm_it hf c110
      cases hf
      exact K0
    · have hf := pm_ie hf c110
      cases hf
      exact K0
  have hf := pm_ie hf c103
  cases hf
  exact K0
set_option maxHeartbeats 4000000 in
set_option maxRecDepth 100000 in
theorem wfX16_isNamedFurther_b45 {h0 h : pm_H} (K0 : pw_F WX16_isNamedFurther h0 h) {x0 : Nat} {x1 : Int32} {x2 : Int64}  {r : (Int32 × pm_H)} (hf : fX16_isNamedFurther_b45 h x0 x1 x2 = some r) : pw_F WX16_isNamedFurther h0 r.2 := by
  unfold fX16_isNamedFurther_b45 at hf
  obtain ⟨k14, hf⟩ := pm_if hf
  obtain ⟨v15, e16, hf⟩ := pm_bd hf
  have K17 := pw_t (by decide) K0 (wfX16_word (pw_rf _) e16)
  exact wfX16_isNamedFurther_b53 K17  hf
set_option maxHeartbeats 4000000 in
set_option maxRecDepth 100000 in
theorem wfX16_isNamedFurther_b32 {h0 h : pm_H} (K0 : pw_F WX16_isNamedFurther h0 h) {x0 : Nat} {x1 : Int32} {s0 : Int64}  {r : (Int32 × pm_H)} (hf : fX16_isNamedFurther_b32 h x0 x1 s0 = some r) : pw_F WX16_isNamedFurther h0 r.2 := by
  unfold fX16_isNamedFurther_b32 at hf
  by_cases c12 : x1 = 12
  · have hf := pm_it hf c12
    exact wfX16_isNamedFurther_b45 K0  hf
  · have hf := pm_ie hf c12
    by_cases c13 : x1 = 14
    · have hf := pm_it hf c13
      exact wfX16_isNamedFurther_b45 K0  hf
    · have hf := pm_ie hf c13
      exact wfX16_isNamedFurther_b53 K0  hf
set_option maxHeartbeats 4000000 in
set_option maxRecDepth 100000 in
theorem wfX16_isNamedFurther_b24 {h0 h : pm_H} (K0 : pw_F WX16_isNamedFurther h0 h) {x0 : Nat} {x1 : Int32}  {r : (Int32 × pm_H)} (hf : fX16_isNamedFurther_b24 h x0 x1 = some r) : pw_F WX16_isNamedFurther h0 r.2 := by
  unfold fX16_isNamedFurther_b24 at hf
  obtain ⟨k8, hf⟩ := pm_if hf
  obtain ⟨v9, e10, hf⟩ := pm_bd hf
  have K11 := pw_t (by decide) K0 (wfX16_word (pw_rf _) e10)
  exact wfX16_isNamedFurther_b32 K11  hf
set_option maxHeartbeats 4000000 in
set_option maxRecDepth 100000 in
theorem wfX16_isNamedFurther {h0 h : pm_H} (K0 : pw_F WX16_isNamedFurther h0 h) {a0 : Nat}  {r : (Int32 × pm_H)} (hf : fX16_isNamedFurther h a0 = some r) : pw_F WX16_isNamedFurther h0 r.2 := by
  unfold fX16_isNamedFurther at hf
  obtain ⟨k1, hf⟩ := pm_if hf
  obtain ⟨v2, e3, hf⟩ := pm_bd hf
  have K4 := pw_t (by decide) K0 (wfX16_word (pw_rf _) e3)
  by_cases c5 : v2.1.toInt32 = 8
  · have hf := pm_it hf c5
    exact wfX16_isNamedFurther_b24 K4  hf
  · have hf := pm_ie hf c5
    by_cases c6 : v2.1.toInt32 = 9
    · have hf := pm_it hf c6
      exact wfX16_isNamedFurther_b24 K4  hf
    · have hf := pm_ie hf c6
      by_cases c7 : v2.1.toInt32 ≤ 11
      · have hf := pm_it hf c7
        exact wfX16_isNamedFurther_b32 K4  hf
      · have hf := pm_ie hf c7
        exact wfX16_isNamedFurther_b24 K4  hf
abbrev WX16_localType : List Nat := [2067]
set_option maxHeartbeats 4000000 in
set_option maxRecDepth 100000 in
theorem wlX16_localType {h0 : pm_H} {r : (Int32 × pm_H)} : ∀ n : Nat, (∀ (x0 : Nat) (x3 : Int64) (x6 : Int64) (x8 : Int64) (x10 : Int64) (h : pm_H), pw_F WX16_localType h0 h → pm_iter sX16_localType n (x0, x3, x6, x8, x10, h) = some r → pw_F WX16_localType h0 r.2) := by
  intro n
  induction n with
  | zero => exact fun _ _ _ _ _ _ _ hf => (by cases hf)
  | succ n ih =>
    refine fun x0 x3 x6 x8 x10 h K0 hf => ?_
    obtain ⟨y, hf, hi⟩ := pm_iter_s hf
    have hf : tX16_localType_55 x0 x3 x6 x8 x10 h = some y := hf
    unfold tX16_localType_55 at hf
    by_cases c23 : x6 ≤ x10
    · have hf := pm_it hf c23
      cases hf
      cases hi
      exact K0
    · have hf := pm_ie hf c23
      obtain ⟨k24, hf⟩ := pm_if hf
      obtain ⟨v25, e26, hf⟩ := pm_bd hf
      have K27 := pw_t (by decide) K0 (wfX16_word (pw_rf _) e26)
      obtain ⟨k28, hf⟩ := pm_if hf
      obtain ⟨v29, e30, hf⟩ := pm_bd hf
      obtain ⟨k31, hf⟩ := pm_if hf
      obtain ⟨v32, e33, hf⟩ := pm_bd hf
      obtain ⟨y34, e35, hf⟩ := pm_lt hf
      by_cases c36 : (x8 + v25.1) ≤ x3
      · have hf := pm_it hf c36
        obtain ⟨y37, e38, hf⟩ := pm_lt hf
        obtain ⟨y39, e40, hf⟩ := pm_lt hf
        cases hf
        exact ih x0 x3 x6 y37 y39 (pm_setI v25.2 x0 19 y34) (pw_sI K27 rfl k28 (by decide))  hi
      · have hf := pm_ie hf c36
        cases hf
        cases hi
        exact (pw_sI K27 rfl k28 (by decide))
set_option maxHeartbeats 4000000 in
set_option maxRecDepth 100000 in
theorem wfX16_localType {h0 h : pm_H} (K0 : pw_F WX16_localType h0 h) {a0 : Nat} {p1 : Int32} {p2 : Int32} {p3 : Int64}  {r : (Int32 × pm_H)} (hf : fX16_localType h a0 p1 p2 p3 = some r) : pw_F WX16_localType h0 r.2 := by
  unfold fX16_localType at hf
  obtain ⟨k1, hf⟩ := pm_if hf
  obtain ⟨v2, e3, hf⟩ := pm_bd hf
  obtain ⟨k4, hf⟩ := pm_if hf
  obtain ⟨v5, e6, hf⟩ := pm_bd hf
  obtain ⟨k7, hf⟩ := pm_if hf
  obtain ⟨u8, hf⟩ := pm_if hf
  obtain ⟨y9, e10, hf⟩ := pm_lt hf
  by_cases c11 : y9.toInt64 ≤ p3
  · have hf := pm_it hf c11
    obtain ⟨v12, e13, hf⟩ := pm_bd hf
    obtain ⟨k14, hf⟩ := pm_if hf
    obtain ⟨u15, hf⟩ := pm_if hf
    obtain ⟨y16, e17, hf⟩ := pm_lt hf
    obtain ⟨v18, e19, hf⟩ := pm_bd hf
    have K20 := pw_t (by decide) (pw_sI K0 rfl k1 (by decide)) (wfX16_word (pw_rf _) e19)
    obtain ⟨n, hn⟩ := pm_lim_iter hf
    exact (wlX16_localType n) a0 p3 v18.1 y9.toInt64 0 v18.2 K20  hn
  · have hf := pm_ie hf c11
    obtain ⟨v21, e22, hf⟩ := pm_bd hf
    cases hf
    exact K0
abbrev WX16_long64 : List Nat := [2081]
set_option maxHeartbeats 4000000 in
set_option maxRecDepth 100000 in
theorem wfX16_long64 {h0 h : pm_H} (K0 : pw_F WX16_long64 h0 h) {a0 : Nat} {p1 : Int32} {p2 : Int64} {p3 : Int64}  {r : (Int64 × pm_H)} (hf : fX16_long64 h a0 p1 p2 p3 = some r) : pw_F WX16_long64 h0 r.2 := by
  unfold fX16_long64 at hf
  obtain ⟨y1, e2, hf⟩ := pm_lt hf
  by_cases c3 : p1 = 0
  · have hf := pm_it hf c3
    obtain ⟨v4, e5, hf⟩ := pm_bd hf
    cases hf
    exact K0
  have hf := pm_ie hf c3
  by_cases c6 : p1 = 1
  · have hf := pm_it hf c6
    obtain ⟨v7, e8, hf⟩ := pm_bd hf
    cases hf
    exact K0
  have hf := pm_ie hf c6
  by_cases c9 : p1 = 2
  · have hf := pm_it hf c9
    obtain ⟨v10, e11, hf⟩ := pm_bd hf
    cases hf
    exact K0
  have hf := pm_ie hf c9
  by_cases c12 : p1 = 3
  · have hf := pm_it hf c12
    obtain ⟨v13, e14, hf⟩ := pm_lt hf
    cases hf
    exact K0
  have hf := pm_ie hf c12
  by_cases c15 : p1 = 4
  · have hf := pm_it hf c15
    obtain ⟨v16, e17, hf⟩ := pm_lt hf
    cases hf
    exact K0
  have hf := pm_ie hf c15
  by_cases c18 : p1 = 5
  · have hf := pm_it hf c18
    obtain ⟨v19, e20, hf⟩ := pm_lt hf
    cases hf
    exact K0
  have hf := pm_ie hf c18
  by_cases c21 : p1 = 6
  · have hf := pm_it hf c21
    obtain ⟨k22, hf⟩ := pm_if hf
    obtain ⟨v23, e24, hf⟩ := pm_bd hf
    have K25 := pw_t (by decide) K0 (wfX16_divided (pw_rf _) e24)
    cases hf
    exact K25
  have hf := pm_ie hf c21
  by_cases c26 : p1 = 7
  · have hf := pm_it hf c26
    obtain ⟨k27, hf⟩ := pm_if hf
    obtain ⟨v28, e29, hf⟩ := pm_bd hf
    have K30 := pw_t (by decide) K0 (wfX16_divided (pw_rf _) e29)
    cases hf
    exact K30
  have hf := pm_ie hf c26
  by_cases c31 : p1 = 8
  · have hf := pm_it hf c31
    obtain ⟨k32, hf⟩ := pm_if hf
    obtain ⟨v33, e34, hf⟩ := pm_bd hf
    have K35 := pw_t (by decide) K0 (wfX16_divided (pw_rf _) e34)
    cases hf
    exact K35
  have hf := pm_ie hf c31
  by_cases c36 : p1 = 9
  · have hf := pm_it hf c36
    obtain ⟨k37, hf⟩ := pm_if hf
    obtain ⟨v38, e39, hf⟩ := pm_bd hf
    have K40 := pw_t (by decide) K0 (wfX16_divided (pw_rf _) e39)
    cases hf
    exact K40
  have hf := pm_ie hf c36
  by_cases c41 : p1 = 10
  · have hf := pm_it hf c41
    obtain ⟨v42, e43, hf⟩ := pm_lt hf
    cases hf
    exact K0
  have hf := pm_ie hf c41
  by_cases c44 : p1 = 11
  · have hf := pm_it hf c44
    obtain ⟨v45, e46, hf⟩ := pm_lt hf
    cases hf
    exact K0
  have hf := pm_ie hf c44
  by_cases c47 : p1 = 12
  · have hf := pm_it hf c47
    obtain ⟨v48, e49, hf⟩ := pm_lt hf
    cases hf
    exact K0
  have hf := pm_ie hf c47
  by_cases c50 : p1 = 13
  · have hf := pm_it hf c50
    cases hf
    exact K0
  have hf := pm_ie hf c50
  by_cases c51 : p1 = 14
  · have hf := pm_it hf c51
    cases hf
    exact K0
  have hf := pm_ie hf c51
  by_cases c52 : p1 = 15
  · have hf := pm_it hf c52
    cases hf
    exact K0
  have hf := pm_ie hf c52
  by_cases c53 : p1 = 16
  · have hf := pm_it hf c53
    by_cases c54 : y1 = 0
    · have hf := pm_it hf c54
      cases hf
      exact K0
    · have hf := pm_ie hf c54
      cases hf
      exact K0
  have hf := pm_ie hf c53
  by_cases c55 : p1 = 17
  · have hf := pm_it hf c55
    by_cases c56 : y1 = 0
    · have hf := pm_it hf c56
      cases hf
      exact K0
    · have hf := pm_ie hf c56
      cases hf
      exact K0
  have hf := pm_ie hf c55
  obtain ⟨v57, e58, hf⟩ := pm_lt hf
  cases hf
  exact K0
abbrev WX16_moves : List Nat := [2067, 2124, 2125, 2141, 4352, 4480]
set_option maxHeartbeats 4000000 in
set_option maxRecDepth 100000 in
theorem wfX16_moves {h0 h : pm_H} (K0 : pw_F WX16_moves h0 h) {a0 : Nat} {p1 : Int32}  {r : pm_H} (hf : fX16_moves h a0 p1 = some r) : pw_F WX16_moves h0 r := by
  unfold fX16_moves at hf
  obtain ⟨k1, hf⟩ := pm_if hf
  obtain ⟨v2, e3, hf⟩ := pm_bd hf
  have K4 := pw_t (by decide) K0 (wfX16_word (pw_rf _) e3)
  obtain ⟨k5, hf⟩ := pm_if hf
  obtain ⟨v6, e7, hf⟩ := pm_bd hf
  obtain ⟨y8, e9, hf⟩ := pm_lt hf
  obtain ⟨k10, hf⟩ := pm_if hf
  obtain ⟨u11, hf⟩ := pm_if hf
  obtain ⟨y12, e13, hf⟩ := pm_lt hf
  by_cases c14 : p1 = 32
  · have hf := pm_it hf c14
    obtain ⟨v15, e16, hf⟩ := pm_bd hf
    obtain ⟨k17, hf⟩ := pm_if hf
    obtain ⟨u18, hf⟩ := pm_if hf
    obtain ⟨v19, e20, hf⟩ := pm_bd hf
    have K21 := pw_t (by decide) K4 (wfX16_push (pw_rf _) e20)
    cases hf
    exact K21
  have hf := pm_ie hf c14
  by_cases c22 : p1 = 33
  · have hf := pm_it hf c22
    obtain ⟨v23, e24, hf⟩ := pm_bd hf
    obtain ⟨v25, e26, hf⟩ := pm_bd hf
    have K27 := pw_t (by decide) K4 (wfX16_pop (pw_rf _) e26)
    obtain ⟨k28, hf⟩ := pm_if hf
    obtain ⟨u29, hf⟩ := pm_if hf
    cases hf
    exact (pw_aL K27 rfl k28 (by decide) (by decide))
  have hf := pm_ie hf c22
  by_cases c30 : p1 = 34
  · have hf := pm_it hf c30
    obtain ⟨v31, e32, hf⟩ := pm_bd hf
    obtain ⟨y33, e34, hf⟩ := pm_lt hf
    obtain ⟨k35, hf⟩ := pm_if hf
    obtain ⟨u36, hf⟩ := pm_if hf
    obtain ⟨y37, e38, hf⟩ := pm_lt hf
    obtain ⟨u39, hf⟩ := pm_if hf
    cases hf
    exact (pw_aL K4 rfl k35 (by decide) (by decide))
  have hf := pm_ie hf c30
  by_cases c40 : p1 = 35
  · have hf := pm_it hf c40
    obtain ⟨v41, e42, hf⟩ := pm_bd hf
    obtain ⟨v43, e44, hf⟩ := pm_bd hf
    obtain ⟨y45, e46, hf⟩ := pm_lt hf
    obtain ⟨k47, hf⟩ := pm_if hf
    obtain ⟨u48, hf⟩ := pm_if hf
    obtain ⟨y49, e50, hf⟩ := pm_lt hf
    obtain ⟨k51, hf⟩ := pm_if hf
    obtain ⟨u52, hf⟩ := pm_if hf
    obtain ⟨v53, e54, hf⟩ := pm_bd hf
    have K55 := pw_t (by decide) K4 (wfX16_push (pw_rf _) e54)
    cases hf
    exact K55
  have hf := pm_ie hf c40
  by_cases c56 : p1 = 36
  · have hf := pm_it hf c56
    obtain ⟨v57, e58, hf⟩ := pm_bd hf
    obtain ⟨v59, e60, hf⟩ := pm_bd hf
    obtain ⟨y61, e62, hf⟩ := pm_lt hf
    obtain ⟨k63, hf⟩ := pm_if hf
    obtain ⟨u64, hf⟩ := pm_if hf
    obtain ⟨v65, e66, hf⟩ := pm_bd hf
    have K67 := pw_t (by decide) K4 (wfX16_pop (pw_rf _) e66)
    obtain ⟨k68, hf⟩ := pm_if hf
    obtain ⟨u69, hf⟩ := pm_if hf
    cases hf
    exact (pw_aL K67 rfl k68 (by decide) (by decide))
  have hf := pm_ie hf c56
  obtain ⟨v70, e71, hf⟩ := pm_bd hf
  obtain ⟨y72, e73, hf⟩ := pm_lt hf
  obtain ⟨k74, hf⟩ := pm_if hf
  obtain ⟨u75, hf⟩ := pm_if hf
  obtain ⟨v76, e77, hf⟩ := pm_bd hf
  have K78 := pw_t (by decide) K4 (wfX16_entry (pw_rf _) e77)
  cases hf
  exact K78
abbrev WX16_offer : List Nat := [2121, 4352]
set_option maxHeartbeats 4000000 in
set_option maxRecDepth 100000 in
theorem wfX16_offer_b70 {h0 h : pm_H} (K0 : pw_F WX16_offer h0 h) {x0 : Nat} {x1 : Int32} {x2 : Int32} {x3 : Int32} {s0 : Int32} {s1 : Int32} {s2 : Nat}  {r : (Int32 × pm_H)} (hf : fX16_offer_b70 h x0 x1 x2 x3 s0 s1 s2 = some r) : pw_F WX16_offer h0 r.2 := by
  unfold fX16_offer_b70 at hf
  obtain ⟨k16, hf⟩ := pm_if hf
  obtain ⟨u17, hf⟩ := pm_if hf
  obtain ⟨k18, hf⟩ := pm_if hf
  have k18b := (congrFun (pkI rfl) x0).symm.trans k18
  obtain ⟨v19, e20, hf⟩ := pm_bd hf
  by_cases c21 : x3 = 0
  · have hf := pm_it hf c21
    obtain ⟨v22, e23, hf⟩ := pm_bd hf
    obtain ⟨k24, hf⟩ := pm_if hf
    have k24b := (congrFun (pkI rfl) v19).symm.trans k24
    obtain ⟨u25, hf⟩ := pm_if hf
    obtain ⟨y26, e27, hf⟩ := pm_lt hf
    cases hf
    exact (pw_sI (pw_aI (pw_aI K0 rfl k16 (by decide) (by decide)) (pkI rfl) k24b (by decide) (by decide)) (pkI (pkI rfl)) k18b (by decide))
  · have hf := pm_ie hf c21
    obtain ⟨k28, hf⟩ := pm_if hf
    have k28b := (congrFun (pkI rfl) v19).symm.trans k28
    obtain ⟨u29, hf⟩ := pm_if hf
    obtain ⟨y30, e31, hf⟩ := pm_lt hf
    cases hf
    exact (pw_sI (pw_aI (pw_aI K0 rfl k16 (by decide) (by decide)) (pkI rfl) k28b (by decide) (by decide)) (pkI (pkI rfl)) k18b (by decide))
set_option maxHeartbeats 4000000 in
set_option maxRecDepth 100000 in
theorem wfX16_offer_b48 {h0 h : pm_H} (K0 : pw_F WX16_offer h0 h) {x0 : Nat} {x1 : Int32} {x2 : Int32} {x3 : Int32}  {r : (Int32 × pm_H)} (hf : fX16_offer_b48 h x0 x1 x2 x3 = some r) : pw_F WX16_offer h0 r.2 := by
  unfold fX16_offer_b48 at hf
  obtain ⟨k10, hf⟩ := pm_if hf
  obtain ⟨v11, e12, hf⟩ := pm_bd hf
  by_cases c13 : x3 = 0
  · have hf := pm_it hf c13
    obtain ⟨v14, e15, hf⟩ := pm_bd hf
    exact wfX16_offer_b70 K0  hf
  · have hf := pm_ie hf c13
    exact wfX16_offer_b70 K0  hf
set_option maxHeartbeats 4000000 in
set_option maxRecDepth 100000 in
theorem wfX16_offer_b10 {h0 h : pm_H} (K0 : pw_F WX16_offer h0 h) {x0 : Nat} {x1 : Int32} {x2 : Int32} {s0 : Int32}  {r : (Int32 × pm_H)} (hf : fX16_offer_b10 h x0 x1 x2 s0 = some r) : pw_F WX16_offer h0 r.2 := by
  unfold fX16_offer_b10 at hf
  obtain ⟨k2, hf⟩ := pm_if hf
  by_cases c3 : (pm_I h x0 73) = 64
  · have hf := pm_it hf c3
    cases hf
    exact K0
  · have hf := pm_ie hf c3
    by_cases c4 : s0 = 0
    · have hf := pm_it hf c4
      obtain ⟨v5, e6, hf⟩ := pm_bd hf
      by_cases c7 : v5 = 0
      · have hf := pm_it hf c7
        cases hf
        exact K0
      · have hf := pm_ie hf c7
        exact wfX16_offer_b48 K0  hf
    · have hf := pm_ie hf c4
      by_cases c8 : x2 < 0
      · have hf := pm_it hf c8
        cases hf
        exact K0
      · have hf := pm_ie hf c8
        by_cases c9 : x2 ≤ 63
        · have hf := pm_it hf c9
          exact wfX16_offer_b48 K0  hf
        · have hf := pm_ie hf c9
          cases hf
          exact K0
set_option maxHeartbeats 4000000 in
set_option maxRecDepth 100000 in
theorem wfX16_offer {h0 h : pm_H} (K0 : pw_F WX16_offer h0 h) {a0 : Nat} {p1 : Int32} {p2 : Int32}  {r : (Int32 × pm_H)} (hf : fX16_offer h a0 p1 p2 = some r) : pw_F WX16_offer h0 r.2 := by
  unfold fX16_offer at hf
  by_cases c1 : p1 = (-1)
  · have hf := pm_it hf c1
    exact wfX16_offer_b10 K0  hf
  · have hf := pm_ie hf c1
    exact wfX16_offer_b10 K0  hf
abbrev WX16_opensBlock : List Nat := [2067, 2142, 2144, 4096, 4352]
set_option maxHeartbeats 4000000 in
set_option maxRecDepth 100000 in
theorem wfX16_opensBlock_b52 {h0 h : pm_H} (K0 : pw_F WX16_opensBlock h0 h) {x0 : Nat} {x1 : Int32} {x3 : Int64} {s0 : Int32} {s1 : Nat}  {r : pm_H} (hf : fX16_opensBlock_b52 h x0 x1 x3 s0 s1 = some r) : pw_F WX16_opensBlock h0 r := by
  unfold fX16_opensBlock_b52 at hf
  by_cases c22 : x1 = 3
  · have hf := pm_it hf c22
    obtain ⟨k23, hf⟩ := pm_if hf
    obtain ⟨v24, e25, hf⟩ := pm_bd hf
    obtain ⟨v26, e27, hf⟩ := pm_bd hf
    by_cases c28 : x1 = 3
    · have hf := pm_it hf c28
      obtain ⟨k29, hf⟩ := pm_if hf
      obtain ⟨v30, e31, hf⟩ := pm_bd hf
      have K32 := pw_t (by decide) K0 (wfX16_opens (pw_rf _) e31)
      cases hf
      exact K32
    · have hf := pm_ie hf c28
      obtain ⟨k33, hf⟩ := pm_if hf
      obtain ⟨v34, e35, hf⟩ := pm_bd hf
      have K36 := pw_t (by decide) K0 (wfX16_opens (pw_rf _) e35)
      cases hf
      exact K36
  · have hf := pm_ie hf c22
    obtain ⟨k37, hf⟩ := pm_if hf
    obtain ⟨v38, e39, hf⟩ := pm_bd hf
    obtain ⟨v40, e41, hf⟩ := pm_bd hf
    by_cases c42 : x1 = 3
    · have hf := pm_it hf c42
      obtain ⟨k43, hf⟩ := pm_if hf
      obtain ⟨v44, e45, hf⟩ := pm_bd hf
      have K46 := pw_t (by decide) K0 (wfX16_opens (pw_rf _) e45)
      cases hf
      exact K46
    · have hf := pm_ie hf c42
      obtain ⟨k47, hf⟩ := pm_if hf
      obtain ⟨v48, e49, hf⟩ := pm_bd hf
      have K50 := pw_t (by decide) K0 (wfX16_opens (pw_rf _) e49)
      cases hf
      exact K50
set_option maxHeartbeats 4000000 in
set_option maxRecDepth 100000 in
theorem wfX16_opensBlock {h0 h : pm_H} (K0 : pw_F WX16_opensBlock h0 h) {a0 : Nat} {p1 : Int32}  {r : pm_H} (hf : fX16_opensBlock h a0 p1 = some r) : pw_F WX16_opensBlock h0 r := by
  unfold fX16_opensBlock at hf
  obtain ⟨k1, hf⟩ := pm_if hf
  obtain ⟨v2, e3, hf⟩ := pm_bd hf
  obtain ⟨k4, hf⟩ := pm_if hf
  obtain ⟨v5, e6, hf⟩ := pm_bd hf
  obtain ⟨y7, e8, hf⟩ := pm_lt hf
  obtain ⟨k9, hf⟩ := pm_if hf
  obtain ⟨u10, hf⟩ := pm_if hf
  obtain ⟨y11, e12, hf⟩ := pm_lt hf
  obtain ⟨y13, e14, hf⟩ := pm_lt hf
  obtain ⟨v15, e16, hf⟩ := pm_bd hf
  have K17 := pw_t (by decide) (pw_sI K0 rfl k1 (by decide)) (wfX16_blockWord (pw_rf _) e16)
  obtain ⟨k18, hf⟩ := pm_if hf
  obtain ⟨y19, e20, hf⟩ := pm_lt hf
  by_cases c21 : p1 = 3
  · have hf := pm_it hf c21
    exact wfX16_opensBlock_b52 (pw_sI K17 rfl k18 (by decide))  hf
  · have hf := pm_ie hf c21
    exact wfX16_opensBlock_b52 (pw_sI K17 rfl k18 (by decide))  hf
abbrev WX16_opensIf : List Nat := [2067, 2141, 2142, 2144, 4096, 4352]
set_option maxHeartbeats 4000000 in
set_option maxRecDepth 100000 in
theorem wfX16_opensIf_b19 {h0 h : pm_H} (K0 : pw_F WX16_opensIf h0 h) {x0 : Nat} {x1 : Int32} {x2 : Int64} {s0 : Int32}  {r : pm_H} (hf : fX16_opensIf_b19 h x0 x1 x2 s0 = some r) : pw_F WX16_opensIf h0 r := by
  unfold fX16_opensIf_b19 at hf
  obtain ⟨k10, hf⟩ := pm_if hf
  obtain ⟨v11, e12, hf⟩ := pm_bd hf
  obtain ⟨k13, hf⟩ := pm_if hf
  obtain ⟨v14, e15, hf⟩ := pm_bd hf
  obtain ⟨k16, hf⟩ := pm_if hf
  obtain ⟨u17, hf⟩ := pm_if hf
  obtain ⟨v18, e19, hf⟩ := pm_bd hf
  obtain ⟨v20, e21, hf⟩ := pm_bd hf
  obtain ⟨v22, e23, hf⟩ := pm_bd hf
  have K24 := pw_t (by decide) K0 (wfX16_opens (pw_rf _) e23)
  by_cases c25 : s0 = 0
  · have hf := pm_it hf c25
    obtain ⟨k26, hf⟩ := pm_if hf
    obtain ⟨v27, e28, hf⟩ := pm_bd hf
    obtain ⟨k29, hf⟩ := pm_if hf
    obtain ⟨v30, e31, hf⟩ := pm_bd hf
    obtain ⟨k32, hf⟩ := pm_if hf
    obtain ⟨u33, hf⟩ := pm_if hf
    by_cases c34 : (pm_I v22 v30 x1.toNatClampNeg) ≤ 0
    · have hf := pm_it hf c34
      obtain ⟨v35, e36, hf⟩ := pm_bd hf
      obtain ⟨k37, hf⟩ := pm_if hf
      obtain ⟨u38, hf⟩ := pm_if hf
      obtain ⟨y39, e40, hf⟩ := pm_lt hf
      cases hf
      exact (pw_sI K24 rfl k26 (by decide))
    · have hf := pm_ie hf c34
      obtain ⟨u41, hf⟩ := pm_if hf
      obtain ⟨y42, e43, hf⟩ := pm_lt hf
      cases hf
      exact (pw_sI K24 rfl k26 (by decide))
  · have hf := pm_ie hf c25
    cases hf
    exact K24
set_option maxHeartbeats 4000000 in
set_option maxRecDepth 100000 in
theorem wfX16_opensIf {h0 h : pm_H} (K0 : pw_F WX16_opensIf h0 h) {a0 : Nat} {p1 : Int32}  {r : pm_H} (hf : fX16_opensIf h a0 p1 = some r) : pw_F WX16_opensIf h0 r := by
  unfold fX16_opensIf at hf
  obtain ⟨k1, hf⟩ := pm_if hf
  obtain ⟨v2, e3, hf⟩ := pm_bd hf
  have K4 := pw_t (by decide) K0 (wfX16_blockWord (pw_rf _) e3)
  obtain ⟨k5, hf⟩ := pm_if hf
  obtain ⟨v6, e7, hf⟩ := pm_bd hf
  have K8 := pw_t (by decide) K4 (wfX16_pop (pw_rf _) e7)
  by_cases c9 : v6.1 = 0
  · have hf := pm_it hf c9
    exact wfX16_opensIf_b19 K8  hf
  · have hf := pm_ie hf c9
    exact wfX16_opensIf_b19 K8  hf
abbrev WX16_others : List Nat := [2067, 2101, 2141, 4352, 4480]
set_option maxHeartbeats 4000000 in
set_option maxRecDepth 100000 in
theorem wfX16_others_b101 {h0 h : pm_H} (K0 : pw_F WX16_others h0 h) {x0 : Nat} {x2 : Int32} {x3 : Int32} {x4 : Int64} {s0 : Int32}  {r : pm_H} (hf : fX16_others_b101 h x0 x2 x3 x4 s0 = some r) : pw_F WX16_others h0 r := by
  unfold fX16_others_b101 at hf
  by_cases c137 : s0 = 0
  · have hf := pm_it hf c137
    by_cases c138 : s0 = 0
    · have hf := pm_it hf c138
      obtain ⟨k139, hf⟩ := pm_if hf
      obtain ⟨v140, e141, hf⟩ := pm_bd hf
      have K142 := pw_t (by decide) K0 (wfX16_push (pw_rf _) e141)
      cases hf
      exact K142
    · have hf := pm_ie hf c138
      obtain ⟨k143, hf⟩ := pm_if hf
      obtain ⟨v144, e145, hf⟩ := pm_bd hf
      have K146 := pw_t (by decide) K0 (wfX16_push (pw_rf _) e145)
      cases hf
      exact K146
  · have hf := pm_ie hf c137
    obtain ⟨k147, hf⟩ := pm_if hf
    obtain ⟨v148, e149, hf⟩ := pm_bd hf
    have K150 := pw_t (by decide) K0 (wfX16_growsPages (pw_rf _) e149)
    by_cases c151 : s0 = 0
    · have hf := pm_it hf c151
      obtain ⟨k152, hf⟩ := pm_if hf
      obtain ⟨v153, e154, hf⟩ := pm_bd hf
      have K155 := pw_t (by decide) K150 (wfX16_push (pw_rf _) e154)
      cases hf
      exact K155
    · have hf := pm_ie hf c151
      obtain ⟨k156, hf⟩ := pm_if hf
      obtain ⟨v157, e158, hf⟩ := pm_bd hf
      have K159 := pw_t (by decide) K150 (wfX16_push (pw_rf _) e158)
      cases hf
      exact K159
set_option maxHeartbeats 4000000 in
set_option maxRecDepth 100000 in
theorem wfX16_others_b100 {h0 h : pm_H} (K0 : pw_F WX16_others h0 h) {x0 : Nat} {x2 : Int32} {x3 : Int32} {x4 : Int64}  {r : pm_H} (hf : fX16_others_b100 h x0 x2 x3 x4 = some r) : pw_F WX16_others h0 r := by
  unfold fX16_others_b100 at hf
  exact wfX16_others_b101 K0  hf
set_option maxHeartbeats 4000000 in
set_option maxRecDepth 100000 in
theorem wfX16_others_b72 {h0 h : pm_H} (K0 : pw_F WX16_others h0 h) {x0 : Nat} {x2 : Int32} {x3 : Int32} {x4 : Int64} {s0 : Int64}  {r : pm_H} (hf : fX16_others_b72 h x0 x2 x3 x4 s0 = some r) : pw_F WX16_others h0 r := by
  unfold fX16_others_b72 at hf
  by_cases c134 : s0 < (x3.toInt64 + x4)
  · have hf := pm_it hf c134
    exact wfX16_others_b100 K0  hf
  · have hf := pm_ie hf c134
    obtain ⟨k135, hf⟩ := pm_if hf
    by_cases c136 : ((pm_I h x0 53).toInt64) < x4
    · have hf := pm_it hf c136
      exact wfX16_others_b100 K0  hf
    · have hf := pm_ie hf c136
      exact wfX16_others_b101 K0  hf
set_option maxHeartbeats 4000000 in
set_option maxRecDepth 100000 in
theorem wfX16_others_b47 {h0 h : pm_H} (K0 : pw_F WX16_others h0 h) {x0 : Nat} {x2 : Int32} {x3 : Int32} {s0 : Int64}  {r : pm_H} (hf : fX16_others_b47 h x0 x2 x3 s0 = some r) : pw_F WX16_others h0 r := by
  unfold fX16_others_b47 at hf
  obtain ⟨k127, hf⟩ := pm_if hf
  obtain ⟨v128, e129, hf⟩ := pm_bd hf
  obtain ⟨k130, hf⟩ := pm_if hf
  obtain ⟨u131, hf⟩ := pm_if hf
  by_cases c132 : 0 ≤ (pm_L h v128 x2.toNatClampNeg)
  · have hf := pm_it hf c132
    obtain ⟨u133, hf⟩ := pm_if hf
    exact wfX16_others_b72 K0  hf
  · have hf := pm_ie hf c132
    exact wfX16_others_b72 K0  hf
set_option maxHeartbeats 4000000 in
set_option maxRecDepth 100000 in
theorem wfX16_others_b12 {h0 h : pm_H} (K0 : pw_F WX16_others h0 h) {x0 : Nat} {x1 : Int32}  {r : pm_H} (hf : fX16_others_b12 h x0 x1 = some r) : pw_F WX16_others h0 r := by
  unfold fX16_others_b12 at hf
  obtain ⟨k108, hf⟩ := pm_if hf
  obtain ⟨v109, e110, hf⟩ := pm_bd hf
  obtain ⟨y111, e112, hf⟩ := pm_lt hf
  obtain ⟨k113, hf⟩ := pm_if hf
  obtain ⟨u114, hf⟩ := pm_if hf
  obtain ⟨y115, e116, hf⟩ := pm_lt hf
  obtain ⟨v117, e118, hf⟩ := pm_bd hf
  obtain ⟨k119, hf⟩ := pm_if hf
  obtain ⟨u120, hf⟩ := pm_if hf
  obtain ⟨y121, e122, hf⟩ := pm_lt hf
  by_cases c123 : x1 = 63
  · have hf := pm_it hf c123
    exact wfX16_others_b47 K0  hf
  · have hf := pm_ie hf c123
    obtain ⟨v124, e125, hf⟩ := pm_bd hf
    have K126 := pw_t (by decide) K0 (wfX16_pop (pw_rf _) e125)
    exact wfX16_others_b47 K126  hf
set_option maxHeartbeats 4000000 in
set_option maxRecDepth 100000 in
theorem wfX16_others {h0 h : pm_H} (K0 : pw_F WX16_others h0 h) {a0 : Nat} {p1 : Int32}  {r : pm_H} (hf : fX16_others h a0 p1 = some r) : pw_F WX16_others h0 r := by
  unfold fX16_others at hf
  by_cases c1 : p1 = 63
  · have hf := pm_it hf c1
    exact wfX16_others_b12 K0  hf
  · have hf := pm_ie hf c1
    by_cases c2 : p1 = 64
    · have hf := pm_it hf c2
      exact wfX16_others_b12 K0  hf
    · have hf := pm_ie hf c2
      by_cases c3 : p1 = 65
      · have hf := pm_it hf c3
        by_cases c4 : p1 = 65
        · have hf := pm_it hf c4
          obtain ⟨k5, hf⟩ := pm_if hf
          obtain ⟨v6, e7, hf⟩ := pm_bd hf
          have K8 := pw_t (by decide) K0 (wfX16_signedWord (pw_rf _) e7)
          obtain ⟨k9, hf⟩ := pm_if hf
          obtain ⟨v10, e11, hf⟩ := pm_bd hf
          have K12 := pw_t (by decide) K8 (wfX16_push (pw_rf _) e11)
          cases hf
          exact K12
        · have hf := pm_ie hf c4
          obtain ⟨k13, hf⟩ := pm_if hf
          obtain ⟨v14, e15, hf⟩ := pm_bd hf
          have K16 := pw_t (by decide) K0 (wfX16_signedWord (pw_rf _) e15)
          obtain ⟨k17, hf⟩ := pm_if hf
          obtain ⟨v18, e19, hf⟩ := pm_bd hf
          have K20 := pw_t (by decide) K16 (wfX16_push (pw_rf _) e19)
          cases hf
          exact K20
      · have hf := pm_ie hf c3
        by_cases c21 : p1 = 66
        · have hf := pm_it hf c21
          by_cases c22 : p1 = 65
          · have hf := pm_it hf c22
            obtain ⟨k23, hf⟩ := pm_if hf
            obtain ⟨v24, e25, hf⟩ := pm_bd hf
            have K26 := pw_t (by decide) K0 (wfX16_signedWord (pw_rf _) e25)
            obtain ⟨k27, hf⟩ := pm_if hf
            obtain ⟨v28, e29, hf⟩ := pm_bd hf
            have K30 := pw_t (by decide) K26 (wfX16_push (pw_rf _) e29)
            cases hf
            exact K30
          · have hf := pm_ie hf c22
            obtain ⟨k31, hf⟩ := pm_if hf
            obtain ⟨v32, e33, hf⟩ := pm_bd hf
            have K34 := pw_t (by decide) K0 (wfX16_signedWord (pw_rf _) e33)
            obtain ⟨k35, hf⟩ := pm_if hf
            obtain ⟨v36, e37, hf⟩ := pm_bd hf
            have K38 := pw_t (by decide) K34 (wfX16_push (pw_rf _) e37)
            cases hf
            exact K38
        · have hf := pm_ie hf c21
          by_cases c39 : p1 = 67
          · have hf := pm_it hf c39
            by_cases c40 : p1 = 67
            · have hf := pm_it hf c40
              obtain ⟨k41, hf⟩ := pm_if hf
              obtain ⟨v42, e43, hf⟩ := pm_bd hf
              have K44 := pw_t (by decide) K0 (wfX16_bytesAt (pw_rf _) e43)
              obtain ⟨k45, hf⟩ := pm_if hf
              obtain ⟨v46, e47, hf⟩ := pm_bd hf
              have K48 := pw_t (by decide) K44 (wfX16_push (pw_rf _) e47)
              cases hf
              exact K48
            · have hf := pm_ie hf c40
              obtain ⟨k49, hf⟩ := pm_if hf
              obtain ⟨v50, e51, hf⟩ := pm_bd hf
              have K52 := pw_t (by decide) K0 (wfX16_bytesAt (pw_rf _) e51)
              obtain ⟨k53, hf⟩ := pm_if hf
              obtain ⟨v54, e55, hf⟩ := pm_bd hf
              have K56 := pw_t (by decide) K52 (wfX16_push (pw_rf _) e55)
              cases hf
              exact K56
          · have hf := pm_ie hf c39
            by_cases c57 : p1 = 68
            · have hf := pm_it hf c57
              by_cases c58 : p1 = 67
              · have hf := pm_it hf c58
                obtain ⟨k59, hf⟩ := pm_if hf
                obtain ⟨v60, e61, hf⟩ := pm_bd hf
                have K62 := pw_t (by decide) K0 (wfX16_bytesAt (pw_rf _) e61)
                obtain ⟨k63, hf⟩ := pm_if hf
                obtain ⟨v64, e65, hf⟩ := pm_bd hf
                have K66 := pw_t (by decide) K62 (wfX16_push (pw_rf _) e65)
                cases hf
                exact K66
              · have hf := pm_ie hf c58
                obtain ⟨k67, hf⟩ := pm_if hf
                obtain ⟨v68, e69, hf⟩ := pm_bd hf
                have K70 := pw_t (by decide) K0 (wfX16_bytesAt (pw_rf _) e69)
                obtain ⟨k71, hf⟩ := pm_if hf
                obtain ⟨v72, e73, hf⟩ := pm_bd hf
                have K74 := pw_t (by decide) K70 (wfX16_push (pw_rf _) e73)
                cases hf
                exact K74
            · have hf := pm_ie hf c57
              by_cases c75 : p1 = 208
              · have hf := pm_it hf c75
                obtain ⟨k76, hf⟩ := pm_if hf
                obtain ⟨v77, e78, hf⟩ := pm_bd hf
                have K79 := pw_t (by decide) K0 (wfX16_push (pw_rf _) e78)
                cases hf
                exact K79
              · have hf := pm_ie hf c75
                by_cases c80 : p1 = 209
                · have hf := pm_it hf c80
                  obtain ⟨k81, hf⟩ := pm_if hf
                  obtain ⟨v82, e83, hf⟩ := pm_bd hf
                  have K84 := pw_t (by decide) K0 (wfX16_pop (pw_rf _) e83)
                  by_cases c85 : v82.1 = (-1)
                  · have hf := pm_it hf c85
                    obtain ⟨k86, hf⟩ := pm_if hf
                    obtain ⟨v87, e88, hf⟩ := pm_bd hf
                    have K89 := pw_t (by decide) K84 (wfX16_push (pw_rf _) e88)
                    cases hf
                    exact K89
                  · have hf := pm_ie hf c85
                    obtain ⟨k90, hf⟩ := pm_if hf
                    obtain ⟨v91, e92, hf⟩ := pm_bd hf
                    have K93 := pw_t (by decide) K84 (wfX16_push (pw_rf _) e92)
                    cases hf
                    exact K93
                · have hf := pm_ie hf c80
                  obtain ⟨k94, hf⟩ := pm_if hf
                  obtain ⟨v95, e96, hf⟩ := pm_bd hf
                  obtain ⟨v97, e98, hf⟩ := pm_bd hf
                  have K99 := pw_t (by decide) K0 (wfX16_word (pw_rf _) e98)
                  obtain ⟨y100, e101, hf⟩ := pm_lt hf
                  obtain ⟨k102, hf⟩ := pm_if hf
                  obtain ⟨u103, hf⟩ := pm_if hf
                  obtain ⟨k104, hf⟩ := pm_if hf
                  obtain ⟨v105, e106, hf⟩ := pm_bd hf
                  have K107 := pw_t (by decide) K99 (wfX16_push (pw_rf _) e106)
                  cases hf
                  exact K107
abbrev WX16_passesFurther : List Nat := [2067]
set_option maxHeartbeats 4000000 in
set_option maxRecDepth 100000 in
theorem wfX16_passesFurther_b55 {h0 h : pm_H} (K0 : pw_F WX16_passesFurther h0 h) {x0 : Nat} {x1 : Int64}  {r : pm_H} (hf : fX16_passesFurther_b55 h x0 x1 = some r) : pw_F WX16_passesFurther h0 r := by
  unfold fX16_passesFurther_b55 at hf
  obtain ⟨k18, hf⟩ := pm_if hf
  by_cases c19 : x1 = 10
  · have hf := pm_it hf c19
    obtain ⟨y20, e21, hf⟩ := pm_lt hf
    cases hf
    exact (pw_sI K0 rfl k18 (by decide))
  · have hf := pm_ie hf c19
    by_cases c22 : x1 = 8
    · have hf := pm_it hf c22
      obtain ⟨y23, e24, hf⟩ := pm_lt hf
      cases hf
      exact (pw_sI K0 rfl k18 (by decide))
    · have hf := pm_ie hf c22
      by_cases c25 : x1 = 11
      · have hf := pm_it hf c25
        obtain ⟨y26, e27, hf⟩ := pm_lt hf
        cases hf
        exact (pw_sI K0 rfl k18 (by decide))
      · have hf := pm_ie hf c25
        obtain ⟨y28, e29, hf⟩ := pm_lt hf
        cases hf
        exact (pw_sI K0 rfl k18 (by decide))
set_option maxHeartbeats 4000000 in
set_option maxRecDepth 100000 in
theorem wfX16_passesFurther_b50 {h0 h : pm_H} (K0 : pw_F WX16_passesFurther h0 h) {x0 : Nat} {x1 : Int64}  {r : pm_H} (hf : fX16_passesFurther_b50 h x0 x1 = some r) : pw_F WX16_passesFurther h0 r := by
  unfold fX16_passesFurther_b50 at hf
  obtain ⟨k14, hf⟩ := pm_if hf
  obtain ⟨v15, e16, hf⟩ := pm_bd hf
  have K17 := pw_t (by decide) K0 (wfX16_word (pw_rf _) e16)
  exact wfX16_passesFurther_b55 K17  hf
set_option maxHeartbeats 4000000 in
set_option maxRecDepth 100000 in
theorem wfX16_passesFurther_b26 {h0 h : pm_H} (K0 : pw_F WX16_passesFurther h0 h) {x0 : Nat} {x1 : Int64}  {r : pm_H} (hf : fX16_passesFurther_b26 h x0 x1 = some r) : pw_F WX16_passesFurther h0 r := by
  unfold fX16_passesFurther_b26 at hf
  by_cases c11 : x1 = 8
  · have hf := pm_it hf c11
    exact wfX16_passesFurther_b50 K0  hf
  · have hf := pm_ie hf c11
    by_cases c12 : x1 = 9
    · have hf := pm_it hf c12
      exact wfX16_passesFurther_b50 K0  hf
    · have hf := pm_ie hf c12
      by_cases c13 : x1 ≤ 11
      · have hf := pm_it hf c13
        exact wfX16_passesFurther_b55 K0  hf
      · have hf := pm_ie hf c13
        exact wfX16_passesFurther_b50 K0  hf
set_option maxHeartbeats 4000000 in
set_option maxRecDepth 100000 in
theorem wfX16_passesFurther_b21 {h0 h : pm_H} (K0 : pw_F WX16_passesFurther h0 h) {x0 : Nat} {x1 : Int64}  {r : pm_H} (hf : fX16_passesFurther_b21 h x0 x1 = some r) : pw_F WX16_passesFurther h0 r := by
  unfold fX16_passesFurther_b21 at hf
  obtain ⟨k7, hf⟩ := pm_if hf
  obtain ⟨v8, e9, hf⟩ := pm_bd hf
  have K10 := pw_t (by decide) K0 (wfX16_word (pw_rf _) e9)
  exact wfX16_passesFurther_b26 K10  hf
set_option maxHeartbeats 4000000 in
set_option maxRecDepth 100000 in
theorem wfX16_passesFurther {h0 h : pm_H} (K0 : pw_F WX16_passesFurther h0 h) {a0 : Nat}  {r : pm_H} (hf : fX16_passesFurther h a0 = some r) : pw_F WX16_passesFurther h0 r := by
  unfold fX16_passesFurther at hf
  obtain ⟨k1, hf⟩ := pm_if hf
  obtain ⟨v2, e3, hf⟩ := pm_bd hf
  have K4 := pw_t (by decide) K0 (wfX16_word (pw_rf _) e3)
  by_cases c5 : v2.1 = 12
  · have hf := pm_it hf c5
    exact wfX16_passesFurther_b21 K4  hf
  · have hf := pm_ie hf c5
    by_cases c6 : v2.1 = 14
    · have hf := pm_it hf c6
      exact wfX16_passesFurther_b21 K4  hf
    · have hf := pm_ie hf c6
      exact wfX16_passesFurther_b26 K4  hf
abbrev WX16_short32 : List Nat := [2081]
set_option maxHeartbeats 4000000 in
set_option maxRecDepth 100000 in
theorem wfX16_short32 {h0 h : pm_H} (K0 : pw_F WX16_short32 h0 h) {a0 : Nat} {p1 : Int32} {p2 : Int64} {p3 : Int64} {p4 : Int64} {p5 : Int64}  {r : (Int64 × pm_H)} (hf : fX16_short32 h a0 p1 p2 p3 p4 p5 = some r) : pw_F WX16_short32 h0 r.2 := by
  unfold fX16_short32 at hf
  obtain ⟨y1, e2, hf⟩ := pm_lt hf
  by_cases c3 : p1 = 0
  · have hf := pm_it hf c3
    obtain ⟨v4, e5, hf⟩ := pm_bd hf
    cases hf
    exact K0
  have hf := pm_ie hf c3
  by_cases c6 : p1 = 1
  · have hf := pm_it hf c6
    obtain ⟨v7, e8, hf⟩ := pm_bd hf
    cases hf
    exact K0
  have hf := pm_ie hf c6
  by_cases c9 : p1 = 2
  · have hf := pm_it hf c9
    obtain ⟨v10, e11, hf⟩ := pm_bd hf
    cases hf
    exact K0
  have hf := pm_ie hf c9
  by_cases c12 : p1 = 3
  · have hf := pm_it hf c12
    obtain ⟨v13, e14, hf⟩ := pm_lt hf
    cases hf
    exact K0
  have hf := pm_ie hf c12
  by_cases c15 : p1 = 4
  · have hf := pm_it hf c15
    obtain ⟨v16, e17, hf⟩ := pm_lt hf
    cases hf
    exact K0
  have hf := pm_ie hf c15
  by_cases c18 : p1 = 5
  · have hf := pm_it hf c18
    obtain ⟨v19, e20, hf⟩ := pm_lt hf
    cases hf
    exact K0
  have hf := pm_ie hf c18
  by_cases c21 : p1 = 6
  · have hf := pm_it hf c21
    by_cases c22 : p1 = 6
    · have hf := pm_it hf c22
      by_cases c23 : p1 = 6
      · have hf := pm_it hf c23
        obtain ⟨k24, hf⟩ := pm_if hf
        obtain ⟨v25, e26, hf⟩ := pm_bd hf
        have K27 := pw_t (by decide) K0 (wfX16_divided (pw_rf _) e26)
        cases hf
        exact K27
      · have hf := pm_ie hf c23
        by_cases c28 : p1 = 8
        · have hf := pm_it hf c28
          obtain ⟨k29, hf⟩ := pm_if hf
          obtain ⟨v30, e31, hf⟩ := pm_bd hf
          have K32 := pw_t (by decide) K0 (wfX16_divided (pw_rf _) e31)
          cases hf
          exact K32
        · have hf := pm_ie hf c28
          obtain ⟨k33, hf⟩ := pm_if hf
          obtain ⟨v34, e35, hf⟩ := pm_bd hf
          have K36 := pw_t (by decide) K0 (wfX16_divided (pw_rf _) e35)
          cases hf
          exact K36
    · have hf := pm_ie hf c22
      by_cases c37 : p1 = 8
      · have hf := pm_it hf c37
        by_cases c38 : p1 = 6
        · have hf := pm_it hf c38
          obtain ⟨k39, hf⟩ := pm_if hf
          obtain ⟨v40, e41, hf⟩ := pm_bd hf
          have K42 := pw_t (by decide) K0 (wfX16_divided (pw_rf _) e41)
          cases hf
          exact K42
        · have hf := pm_ie hf c38
          by_cases c43 : p1 = 8
          · have hf := pm_it hf c43
            obtain ⟨k44, hf⟩ := pm_if hf
            obtain ⟨v45, e46, hf⟩ := pm_bd hf
            have K47 := pw_t (by decide) K0 (wfX16_divided (pw_rf _) e46)
            cases hf
            exact K47
          · have hf := pm_ie hf c43
            obtain ⟨k48, hf⟩ := pm_if hf
            obtain ⟨v49, e50, hf⟩ := pm_bd hf
            have K51 := pw_t (by decide) K0 (wfX16_divided (pw_rf _) e50)
            cases hf
            exact K51
      · have hf := pm_ie hf c37
        by_cases c52 : p1 = 6
        · have hf := pm_it hf c52
          obtain ⟨k53, hf⟩ := pm_if hf
          obtain ⟨v54, e55, hf⟩ := pm_bd hf
          have K56 := pw_t (by decide) K0 (wfX16_divided (pw_rf _) e55)
          cases hf
          exact K56
        · have hf := pm_ie hf c52
          by_cases c57 : p1 = 8
          · have hf := pm_it hf c57
            obtain ⟨k58, hf⟩ := pm_if hf
            obtain ⟨v59, e60, hf⟩ := pm_bd hf
            have K61 := pw_t (by decide) K0 (wfX16_divided (pw_rf _) e60)
            cases hf
            exact K61
          · have hf := pm_ie hf c57
            obtain ⟨k62, hf⟩ := pm_if hf
            obtain ⟨v63, e64, hf⟩ := pm_bd hf
            have K65 := pw_t (by decide) K0 (wfX16_divided (pw_rf _) e64)
            cases hf
            exact K65
  have hf := pm_ie hf c21
  by_cases c66 : p1 = 7
  · have hf := pm_it hf c66
    by_cases c67 : p1 = 6
    · have hf := pm_it hf c67
      by_cases c68 : p1 = 6
      · have hf := pm_it hf c68
        obtain ⟨k69, hf⟩ := pm_if hf
        obtain ⟨v70, e71, hf⟩ := pm_bd hf
        have K72 := pw_t (by decide) K0 (wfX16_divided (pw_rf _) e71)
        cases hf
        exact K72
      · have hf := pm_ie hf c68
        by_cases c73 : p1 = 8
        · have hf := pm_it hf c73
          obtain ⟨k74, hf⟩ := pm_if hf
          obtain ⟨v75, e76, hf⟩ := pm_bd hf
          have K77 := pw_t (by decide) K0 (wfX16_divided (pw_rf _) e76)
          cases hf
          exact K77
        · have hf := pm_ie hf c73
          obtain ⟨k78, hf⟩ := pm_if hf
          obtain ⟨v79, e80, hf⟩ := pm_bd hf
          have K81 := pw_t (by decide) K0 (wfX16_divided (pw_rf _) e80)
          cases hf
          exact K81
    · have hf := pm_ie hf c67
      by_cases c82 : p1 = 8
      · have hf := pm_it hf c82
        by_cases c83 : p1 = 6
        · have hf := pm_it hf c83
          obtain ⟨k84, hf⟩ := pm_if hf
          obtain ⟨v85, e86, hf⟩ := pm_bd hf
          have K87 := pw_t (by decide) K0 (wfX16_divided (pw_rf _) e86)
          cases hf
          exact K87
        · have hf := pm_ie hf c83
          by_cases c88 : p1 = 8
          · have hf := pm_it hf c88
            obtain ⟨k89, hf⟩ := pm_if hf
            obtain ⟨v90, e91, hf⟩ := pm_bd hf
            have K92 := pw_t (by decide) K0 (wfX16_divided (pw_rf _) e91)
            cases hf
            exact K92
          · have hf := pm_ie hf c88
            obtain ⟨k93, hf⟩ := pm_if hf
            obtain ⟨v94, e95, hf⟩ := pm_bd hf
            have K96 := pw_t (by decide) K0 (wfX16_divided (pw_rf _) e95)
            cases hf
            exact K96
      · have hf := pm_ie hf c82
        by_cases c97 : p1 = 6
        · have hf := pm_it hf c97
          obtain ⟨k98, hf⟩ := pm_if hf
          obtain ⟨v99, e100, hf⟩ := pm_bd hf
          have K101 := pw_t (by decide) K0 (wfX16_divided (pw_rf _) e100)
          cases hf
          exact K101
        · have hf := pm_ie hf c97
          by_cases c102 : p1 = 8
          · have hf := pm_it hf c102
            obtain ⟨k103, hf⟩ := pm_if hf
            obtain ⟨v104, e105, hf⟩ := pm_bd hf
            have K106 := pw_t (by decide) K0 (wfX16_divided (pw_rf _) e105)
            cases hf
            exact K106
          · have hf := pm_ie hf c102
            obtain ⟨k107, hf⟩ := pm_if hf
            obtain ⟨v108, e109, hf⟩ := pm_bd hf
            have K110 := pw_t (by decide) K0 (wfX16_divided (pw_rf _) e109)
            cases hf
            exact K110
  have hf := pm_ie hf c66
  by_cases c111 : p1 = 8
  · have hf := pm_it hf c111
    by_cases c112 : p1 = 6
    · have hf := pm_it hf c112
      by_cases c113 : p1 = 6
      · have hf := pm_it hf c113
        obtain ⟨k114, hf⟩ := pm_if hf
        obtain ⟨v115, e116, hf⟩ := pm_bd hf
        have K117 := pw_t (by decide) K0 (wfX16_divided (pw_rf _) e116)
        cases hf
        exact K117
      · have hf := pm_ie hf c113
        by_cases c118 : p1 = 8
        · have hf := pm_it hf c118
          obtain ⟨k119, hf⟩ := pm_if hf
          obtain ⟨v120, e121, hf⟩ := pm_bd hf
          have K122 := pw_t (by decide) K0 (wfX16_divided (pw_rf _) e121)
          cases hf
          exact K122
        · have hf := pm_ie hf c118
          obtain ⟨k123, hf⟩ := pm_if hf
          obtain ⟨v124, e125, hf⟩ := pm_bd hf
          have K126 := pw_t (by decide) K0 (wfX16_divided (pw_rf _) e125)
          cases hf
          exact K126
    · have hf := pm_ie hf c112
      by_cases c127 : p1 = 8
      · have hf := pm_it hf c127
        by_cases c128 : p1 = 6
        · have hf := pm_it hf c128
          obtain ⟨k129, hf⟩ := pm_if hf
          obtain ⟨v130, e131, hf⟩ := pm_bd hf
          have K132 := pw_t (by decide) K0 (wfX16_divided (pw_rf _) e131)
          cases hf
          exact K132
        · have hf := pm_ie hf c128
          by_cases c133 : p1 = 8
          · have hf := pm_it hf c133
            obtain ⟨k134, hf⟩ := pm_if hf
            obtain ⟨v135, e136, hf⟩ := pm_bd hf
            have K137 := pw_t (by decide) K0 (wfX16_divided (pw_rf _) e136)
            cases hf
            exact K137
          · have hf := pm_ie hf c133
            obtain ⟨k138, hf⟩ := pm_if hf
            obtain ⟨v139, e140, hf⟩ := pm_bd hf
            have K141 := pw_t (by decide) K0 (wfX16_divided (pw_rf _) e140)
            cases hf
            exact K141
      · have hf := pm_ie hf c127
        by_cases c142 : p1 = 6
        · have hf := pm_it hf c142
          obtain ⟨k143, hf⟩ := pm_if hf
          obtain ⟨v144, e145, hf⟩ := pm_bd hf
          have K146 := pw_t (by decide) K0 (wfX16_divided (pw_rf _) e145)
          cases hf
          exact K146
        · have hf := pm_ie hf c142
          by_cases c147 : p1 = 8
          · have hf := pm_it hf c147
            obtain ⟨k148, hf⟩ := pm_if hf
            obtain ⟨v149, e150, hf⟩ := pm_bd hf
            have K151 := pw_t (by decide) K0 (wfX16_divided (pw_rf _) e150)
            cases hf
            exact K151
          · have hf := pm_ie hf c147
            obtain ⟨k152, hf⟩ := pm_if hf
            obtain ⟨v153, e154, hf⟩ := pm_bd hf
            have K155 := pw_t (by decide) K0 (wfX16_divided (pw_rf _) e154)
            cases hf
            exact K155
  have hf := pm_ie hf c111
  by_cases c156 : p1 = 9
  · have hf := pm_it hf c156
    by_cases c157 : p1 = 6
    · have hf := pm_it hf c157
      by_cases c158 : p1 = 6
      · have hf := pm_it hf c158
        obtain ⟨k159, hf⟩ := pm_if hf
        obtain ⟨v160, e161, hf⟩ := pm_bd hf
        have K162 := pw_t (by decide) K0 (wfX16_divided (pw_rf _) e161)
        cases hf
        exact K162
      · have hf := pm_ie hf c158
        by_cases c163 : p1 = 8
        · have hf := pm_it hf c163
          obtain ⟨k164, hf⟩ := pm_if hf
          obtain ⟨v165, e166, hf⟩ := pm_bd hf
          have K167 := pw_t (by decide) K0 (wfX16_divided (pw_rf _) e166)
          cases hf
          exact K167
        · have hf := pm_ie hf c163
          obtain ⟨k168, hf⟩ := pm_if hf
          obtain ⟨v169, e170, hf⟩ := pm_bd hf
          have K171 := pw_t (by decide) K0 (wfX16_divided (pw_rf _) e170)
          cases hf
          exact K171
    · have hf := pm_ie hf c157
      by_cases c172 : p1 = 8
      · have hf := pm_it hf c172
        by_cases c173 : p1 = 6
        · have hf := pm_it hf c173
          obtain ⟨k174, hf⟩ := pm_if hf
          obtain ⟨v175, e176, hf⟩ := pm_bd hf
          have K177 := pw_t (by decide) K0 (wfX16_divided (pw_rf _) e176)
          cases hf
          exact K177
        · have hf := pm_ie hf c173
          by_cases c178 : p1 = 8
          · have hf := pm_it hf c178
            obtain ⟨k179, hf⟩ := pm_if hf
            obtain ⟨v180, e181, hf⟩ := pm_bd hf
            have K182 := pw_t (by decide) K0 (wfX16_divided (pw_rf _) e181)
            cases hf
            exact K182
          · have hf := pm_ie hf c178
            obtain ⟨k183, hf⟩ := pm_if hf
            obtain ⟨v184, e185, hf⟩ := pm_bd hf
            have K186 := pw_t (by decide) K0 (wfX16_divided (pw_rf _) e185)
            cases hf
            exact K186
      · have hf := pm_ie hf c172
        by_cases c187 : p1 = 6
        · have hf := pm_it hf c187
          obtain ⟨k188, hf⟩ := pm_if hf
          obtain ⟨v189, e190, hf⟩ := pm_bd hf
          have K191 := pw_t (by decide) K0 (wfX16_divided (pw_rf _) e190)
          cases hf
          exact K191
        · have hf := pm_ie hf c187
          by_cases c192 : p1 = 8
          · have hf := pm_it hf c192
            obtain ⟨k193, hf⟩ := pm_if hf
            obtain ⟨v194, e195, hf⟩ := pm_bd hf
            have K196 := pw_t (by decide) K0 (wfX16_divided (pw_rf _) e195)
            cases hf
            exact K196
          · have hf := pm_ie hf c192
            obtain ⟨k197, hf⟩ := pm_if hf
            obtain ⟨v198, e199, hf⟩ := pm_bd hf
            have K200 := pw_t (by decide) K0 (wfX16_divided (pw_rf _) e199)
            cases hf
            exact K200
  have hf := pm_ie hf c156
  by_cases c201 : p1 = 10
  · have hf := pm_it hf c201
    obtain ⟨v202, e203, hf⟩ := pm_lt hf
    cases hf
    exact K0
  have hf := pm_ie hf c201
  by_cases c204 : p1 = 11
  · have hf := pm_it hf c204
    obtain ⟨v205, e206, hf⟩ := pm_lt hf
    cases hf
    exact K0
  have hf := pm_ie hf c204
  by_cases c207 : p1 = 12
  · have hf := pm_it hf c207
    obtain ⟨v208, e209, hf⟩ := pm_lt hf
    cases hf
    exact K0
  have hf := pm_ie hf c207
  by_cases c210 : p1 = 13
  · have hf := pm_it hf c210
    cases hf
    exact K0
  have hf := pm_ie hf c210
  by_cases c211 : p1 = 14
  · have hf := pm_it hf c211
    cases hf
    exact K0
  have hf := pm_ie hf c211
  by_cases c212 : p1 = 15
  · have hf := pm_it hf c212
    cases hf
    exact K0
  have hf := pm_ie hf c212
  by_cases c213 : p1 = 16
  · have hf := pm_it hf c213
    cases hf
    exact K0
  have hf := pm_ie hf c213
  by_cases c214 : p1 = 17
  · have hf := pm_it hf c214
    cases hf
    exact K0
  have hf := pm_ie hf c214
  obtain ⟨v215, e216, hf⟩ := pm_lt hf
  cases hf
  exact K0
abbrev WX16_stretches : List Nat := [2124, 2125, 2141, 4224]
set_option maxHeartbeats 4000000 in
set_option maxRecDepth 100000 in
theorem wlX16_stretches {h0 : pm_H} {r : pm_H} : ∀ n : Nat, (∀ (x0 : Nat) (x1 : Int32) (x3 : Int32) (x4 : Int64) (x6 : Int64) (x8 : Int64) (x12 : Int32) (x13 : Int64) (h : pm_H), pw_F WX16_stretches h0 h → pm_iter sX16_stretches n (.inl (x0, x1, x3, x4, x6, x8, x12, x13, h)) = some r → pw_F WX16_stretches h0 r) ∧ (∀ (x0 : Nat) (x1 : Int32) (x3 : Int32) (x4 : Int64) (x6 : Int64) (x8 : Int64) (x12 : Int32) (x13 : Int64) (h : pm_H), pw_F WX16_stretches h0 h → pm_iter sX16_stretches n (.inr (.inl (x0, x1, x3, x4, x6, x8, x12, x13, h))) = some r → pw_F WX16_stretches h0 r) ∧ (∀ (x0 : Nat) (x1 : Int32) (x3 : Int32) (x4 : Int64) (x6 : Int64) (x8 : Int64) (x12 : Int32) (x13 : Int64) (s0 : Int64) (h : pm_H), pw_F WX16_stretches h0 h → pm_iter sX16_stretches n (.inr (.inr (x0, x1, x3, x4, x6, x8, x12, x13, s0, h))) = some r → pw_F WX16_stretches h0 r) := by
  intro n
  induction n with
  | zero => exact ⟨fun _ _ _ _ _ _ _ _ _ _ hf => (by cases hf), fun _ _ _ _ _ _ _ _ _ _ hf => (by cases hf), fun _ _ _ _ _ _ _ _ _ _ _ hf => (by cases hf)⟩
  | succ n ih =>
    refine ⟨fun x0 x1 x3 x4 x6 x8 x12 x13 h K0 hf => ?_, ?_⟩
    · obtain ⟨y, hf, hi⟩ := pm_iter_s hf
      have hf : tX16_stretches_126 x0 x1 x3 x4 x6 x8 x12 x13 h = some y := hf
      unfold tX16_stretches_126 at hf
      by_cases c56 : x4 ≤ x13
      · have hf := pm_it hf c56
        cases hf
        cases hi
        exact K0
      · have hf := pm_ie hf c56
        by_cases c57 : x12 = 0
        · have hf := pm_it hf c57
          by_cases c58 : x1 = 10
          · have hf := pm_it hf c58
            by_cases c59 : x8 ≤ x6
            · have hf := pm_it hf c59
              cases hf
              exact ih.2.1 x0 x1 x3 x4 x6 x8 x12 x13 h K0  hi
            · have hf := pm_ie hf c59
              cases hf
              exact ih.2.2 x0 x1 x3 x4 x6 x8 x12 x13 ((x4 - 1) - x13) h K0  hi
          · have hf := pm_ie hf c58
            cases hf
            exact ih.2.1 x0 x1 x3 x4 x6 x8 x12 x13 h K0  hi
        · have hf := pm_ie hf c57
          cases hf
          cases hi
          exact K0
    refine ⟨fun x0 x1 x3 x4 x6 x8 x12 x13 h K0 hf => ?_, ?_⟩
    · obtain ⟨y, hf, hi⟩ := pm_iter_s hf
      have hf : tX16_stretches_163 x0 x1 x3 x4 x6 x8 x12 x13 h = some y := hf
      unfold tX16_stretches_163 at hf
      cases hf
      exact ih.2.2 x0 x1 x3 x4 x6 x8 x12 x13 x13 h K0  hi
    refine fun x0 x1 x3 x4 x6 x8 x12 x13 s0 h K0 hf => ?_
    obtain ⟨y, hf, hi⟩ := pm_iter_s hf
    have hf : tX16_stretches_165 x0 x1 x3 x4 x6 x8 x12 x13 s0 h = some y := hf
    unfold tX16_stretches_165 at hf
    by_cases c60 : x1 = 11
    · have hf := pm_it hf c60
      obtain ⟨k61, hf⟩ := pm_if hf
      obtain ⟨v62, e63, hf⟩ := pm_bd hf
      have K64 := pw_t (by decide) K0 (wfX16_sets (pw_rf _) e63)
      obtain ⟨y65, e66, hf⟩ := pm_lt hf
      cases hf
      exact ih.1 x0 x1 x3 x4 x6 x8 x12 y65 v62 K64  hi
    · have hf := pm_ie hf c60
      obtain ⟨k67, hf⟩ := pm_if hf
      obtain ⟨v68, e69, hf⟩ := pm_bd hf
      obtain ⟨v70, e71, hf⟩ := pm_bd hf
      have K72 := pw_t (by decide) K0 (wfX16_sets (pw_rf _) e71)
      obtain ⟨y73, e74, hf⟩ := pm_lt hf
      cases hf
      exact ih.1 x0 x1 x3 x4 x6 x8 x12 y73 v70 K72  hi
set_option maxHeartbeats 4000000 in
set_option maxRecDepth 100000 in
theorem wfX16_stretches {h0 h : pm_H} (K0 : pw_F WX16_stretches h0 h) {a0 : Nat} {p1 : Int32} {p2 : Int32}  {r : pm_H} (hf : fX16_stretches h a0 p1 p2 = some r) : pw_F WX16_stretches h0 r := by
  unfold fX16_stretches at hf
  obtain ⟨k1, hf⟩ := pm_if hf
  obtain ⟨v2, e3, hf⟩ := pm_bd hf
  obtain ⟨y4, e5, hf⟩ := pm_lt hf
  obtain ⟨k6, hf⟩ := pm_if hf
  obtain ⟨u7, hf⟩ := pm_if hf
  obtain ⟨y8, e9, hf⟩ := pm_lt hf
  obtain ⟨v10, e11, hf⟩ := pm_bd hf
  have K12 := pw_t (by decide) K0 (wfX16_pop (pw_rf _) e11)
  obtain ⟨k13, hf⟩ := pm_if hf
  obtain ⟨v14, e15, hf⟩ := pm_bd hf
  have K16 := pw_t (by decide) K12 (wfX16_pop (pw_rf _) e15)
  obtain ⟨k17, hf⟩ := pm_if hf
  obtain ⟨v18, e19, hf⟩ := pm_bd hf
  have K20 := pw_t (by decide) K16 (wfX16_pop (pw_rf _) e19)
  obtain ⟨k21, hf⟩ := pm_if hf
  obtain ⟨v22, e23, hf⟩ := pm_bd hf
  obtain ⟨k24, hf⟩ := pm_if hf
  obtain ⟨u25, hf⟩ := pm_if hf
  obtain ⟨y26, e27, hf⟩ := pm_lt hf
  by_cases c28 : p1 = 8
  · have hf := pm_it hf c28
    obtain ⟨v29, e30, hf⟩ := pm_bd hf
    have K31 := pw_t (by decide) K20 (wfX16_copiesData (pw_rf _) e30)
    by_cases c32 : v29.1 = 0
    · have hf := pm_it hf c32
      obtain ⟨k33, hf⟩ := pm_if hf
      obtain ⟨v34, e35, hf⟩ := pm_bd hf
      have K36 := pw_t (by decide) K31 (wfX16_endsBy (pw_rf _) e35)
      cases hf
      exact K36
    · have hf := pm_ie hf c32
      obtain ⟨k37, hf⟩ := pm_if hf
      obtain ⟨v38, e39, hf⟩ := pm_bd hf
      have K40 := pw_t (by decide) K31 (wfX16_endsBy (pw_rf _) e39)
      cases hf
      exact K40
  · have hf := pm_ie hf c28
    by_cases c41 : y26 < (v18.1 + v10.1)
    · have hf := pm_it hf c41
      obtain ⟨v42, e43, hf⟩ := pm_bd hf
      have K44 := pw_t (by decide) K20 (wfX16_endsBy (pw_rf _) e43)
      obtain ⟨n, hn⟩ := pm_lim_iter hf
      exact (wlX16_stretches n).1 a0 p1 y8 v10.1 v14.1 v18.1 1 0 v42 K44  hn
    · have hf := pm_ie hf c41
      by_cases c45 : p1 = 10
      · have hf := pm_it hf c45
        by_cases c46 : (v14.1 + v10.1) ≤ y26
        · have hf := pm_it hf c46
          obtain ⟨v47, e48, hf⟩ := pm_bd hf
          have K49 := pw_t (by decide) K20 (wfX16_endsBy (pw_rf _) e48)
          obtain ⟨n, hn⟩ := pm_lim_iter hf
          exact (wlX16_stretches n).1 a0 p1 y8 v10.1 v14.1 v18.1 0 0 v47 K49  hn
        · have hf := pm_ie hf c46
          obtain ⟨v50, e51, hf⟩ := pm_bd hf
          have K52 := pw_t (by decide) K20 (wfX16_endsBy (pw_rf _) e51)
          obtain ⟨n, hn⟩ := pm_lim_iter hf
          exact (wlX16_stretches n).1 a0 p1 y8 v10.1 v14.1 v18.1 1 0 v50 K52  hn
      · have hf := pm_ie hf c45
        obtain ⟨v53, e54, hf⟩ := pm_bd hf
        have K55 := pw_t (by decide) K20 (wfX16_endsBy (pw_rf _) e54)
        obtain ⟨n, hn⟩ := pm_lim_iter hf
        exact (wlX16_stretches n).1 a0 p1 y8 v10.1 v14.1 v18.1 0 0 v53 K55  hn
