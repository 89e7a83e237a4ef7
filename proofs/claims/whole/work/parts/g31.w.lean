abbrev WX5_begin : List Nat := [6, 7, 8, 256, 257, 258, 259, 260, 261, 262, 263, 264, 265, 267, 268, 384, 385, 386, 387, 388, 389, 390, 391, 640, 642, 643, 644, 647, 652, 653, 654, 1282, 4096, 4352, 4480]
set_option maxHeartbeats 4000000 in
set_option maxRecDepth 100000 in
theorem wlX5_begin {h0 : pm_H} {r : pm_H} : ∀ n : Nat, (∀ (x0 : Nat) (x1 : Int32) (x2 : Nat) (x3 : Int32) (h : pm_H), pw_F WX5_begin h0 h → pm_iter sX5_begin n (.inl (x0, x1, x2, x3, h)) = some r → pw_F WX5_begin h0 r) ∧ (∀ (x0 : Nat) (x1 : Int32) (x2 : Nat) (x3 : Int32) (x4 : Nat) (x5 : Int32) (h : pm_H), pw_F WX5_begin h0 h → pm_iter sX5_begin n (.inr (.inl (x0, x1, x2, x3, x4, x5, h))) = some r → pw_F WX5_begin h0 r) ∧ (∀ (h : pm_H), pw_F WX5_begin h0 h → pm_iter sX5_begin n (.inr (.inr h)) = some r → pw_F WX5_begin h0 r) := by
  intro n
  induction n with
  | zero => exact ⟨fun _ _ _ _ _ _ hf => (by cases hf), fun _ _ _ _ _ _ _ _ hf => (by cases hf), fun  _ _ hf => (by cases hf)⟩
  | succ n ih =>
    refine ⟨fun x0 x1 x2 x3 h K0 hf => ?_, ?_⟩
    · obtain ⟨y, hf, hi⟩ := pm_iter_s hf
      have hf : tX5_begin_0 x0 x1 x2 x3 h = some y := hf
      unfold tX5_begin_0 at hf
      obtain ⟨k1, hf⟩ := pm_if hf
      obtain ⟨v2, e3, hf⟩ := pm_bd hf
      have K4 := pw_t (by decide) K0 (wfX5_clearFrames (pw_rf _) e3)
      obtain ⟨k5, hf⟩ := pm_if hf
      obtain ⟨v6, e7, hf⟩ := pm_bd hf
      obtain ⟨k8, hf⟩ := pm_if hf
      have k8b := (congrFun (pkI (pkI rfl)) v6).symm.trans k8
      obtain ⟨v9, e10, hf⟩ := pm_bd hf
      cases hf
      exact ih.2.1 x0 x1 x2 x3 v9 0 (pm_setI (pm_setI v2 x0 0 1) x0 2 0) (pw_sI (pw_sI K4 rfl k5 (by decide)) (pkI rfl) k5 (by decide))  hi
    refine ⟨fun x0 x1 x2 x3 x4 x5 h K0 hf => ?_, ?_⟩
    · obtain ⟨y, hf, hi⟩ := pm_iter_s hf
      have hf : tX5_begin_27 x0 x1 x2 x3 x4 x5 h = some y := hf
      unfold tX5_begin_27 at hf
      by_cases c11 : x3 ≤ x5
      · have hf := pm_it hf c11
        obtain ⟨k12, hf⟩ := pm_if hf
        obtain ⟨v13, e14, hf⟩ := pm_bd hf
        have K15 := pw_t (by decide) K0 (wfX5_enter (pw_rf _) e14)
        obtain ⟨k16, hf⟩ := pm_if hf
        obtain ⟨v17, e18, hf⟩ := pm_bd hf
        have K19 := pw_t (by decide) K15 (wfX5_settle (pw_rf _) e18)
        cases hf
        exact ih.2.2 v17 K19  hi
      · have hf := pm_ie hf c11
        obtain ⟨k20, hf⟩ := pm_if hf
        obtain ⟨v21, e22, hf⟩ := pm_bd hf
        obtain ⟨v23, e24, hf⟩ := pm_bd hf
        obtain ⟨v25, e26, hf⟩ := pm_bd hf
        obtain ⟨v27, e28, hf⟩ := pm_lt hf
        obtain ⟨v29, e30, hf⟩ := pm_bd hf
        have K31 := pw_t (by decide) K0 (wfX12_setItem_ (pw_rf _) e30)
        obtain ⟨y32, e33, hf⟩ := pm_lt hf
        cases hf
        exact ih.2.1 x0 x1 x2 x3 x4 y32 v29 K31  hi
    refine fun h K0 hf => ?_
    obtain ⟨y, hf, hi⟩ := pm_iter_s hf
    have hf : tX5_begin_76 h = some y := hf
    unfold tX5_begin_76 at hf
    have hf := Option.some.inj hf
    subst hf
    have hi := Option.some.inj (show some _ = some r from hi)
    subst hi
    exact K0
set_option maxHeartbeats 4000000 in
set_option maxRecDepth 100000 in
theorem wfX5_begin {h0 h : pm_H} (K0 : pw_F WX5_begin h0 h) {a0 : Nat} {p1 : Int32} {p2 : Nat} {p3 : Int32}  {r : pm_H} (hf : fX5_begin h a0 p1 p2 p3 = some r) : pw_F WX5_begin h0 r := by
  unfold fX5_begin at hf
  obtain ⟨n, hn⟩ := pm_lim_iter hf
  exact (wlX5_begin n).1 a0 p1 p2 p3 h K0  hn
abbrev WX5_goOn : List Nat := [6, 7, 8, 256, 257, 258, 259, 260, 261, 262, 263, 264, 265, 267, 268, 386, 387, 389, 390, 391, 640, 643, 647, 652, 653, 654, 4096, 4352, 4480]
set_option maxHeartbeats 4000000 in
set_option maxRecDepth 100000 in
theorem wlX5_goOn {h0 : pm_H} {r : pm_H} : ∀ n : Nat, (∀ (x0 : Nat) (x1 : Nat) (x2 : Int32) (h : pm_H), pw_F WX5_goOn h0 h → pm_iter sX5_goOn n (.inl (x0, x1, x2, h)) = some r → pw_F WX5_goOn h0 r) ∧ (∀ (x0 : Nat) (x1 : Nat) (x2 : Int32) (x3 : Nat) (x4 : Int32) (x5 : Int32) (h : pm_H), pw_F WX5_goOn h0 h → pm_iter sX5_goOn n (.inr (.inl (x0, x1, x2, x3, x4, x5, h))) = some r → pw_F WX5_goOn h0 r) ∧ (∀ (x0 : Nat) (x2 : Int32) (x5 : Int32) (h : pm_H), pw_F WX5_goOn h0 h → pm_iter sX5_goOn n (.inr (.inr (.inl (x0, x2, x5, h)))) = some r → pw_F WX5_goOn h0 r) ∧ (∀ (h : pm_H), pw_F WX5_goOn h0 h → pm_iter sX5_goOn n (.inr (.inr (.inr h))) = some r → pw_F WX5_goOn h0 r) := by
  intro n
  induction n with
  | zero => exact ⟨fun _ _ _ _ _ hf => (by cases hf), fun _ _ _ _ _ _ _ _ hf => (by cases hf), fun _ _ _ _ _ hf => (by cases hf), fun  _ _ hf => (by cases hf)⟩
  | succ n ih =>
    refine ⟨fun x0 x1 x2 h K0 hf => ?_, ?_⟩
    · obtain ⟨y, hf, hi⟩ := pm_iter_s hf
      have hf : tX5_goOn_0 x0 x1 x2 h = some y := hf
      unfold tX5_goOn_0 at hf
      obtain ⟨k1, hf⟩ := pm_if hf
      obtain ⟨v2, e3, hf⟩ := pm_bd hf
      obtain ⟨k4, hf⟩ := pm_if hf
      obtain ⟨v5, e6, hf⟩ := pm_bd hf
      obtain ⟨v7, e8, hf⟩ := pm_bd hf
      obtain ⟨y9, e10, hf⟩ := pm_lt hf
      cases hf
      exact ih.2.1 x0 x1 x2 v5 y9 0 h K0  hi
    refine ⟨fun x0 x1 x2 x3 x4 x5 h K0 hf => ?_, ?_⟩
    · obtain ⟨y, hf, hi⟩ := pm_iter_s hf
      have hf : tX5_goOn_24 x0 x1 x2 x3 x4 x5 h = some y := hf
      unfold tX5_goOn_24 at hf
      by_cases c11 : x2 ≤ x5
      · have hf := pm_it hf c11
        obtain ⟨k12, hf⟩ := pm_if hf
        by_cases c13 : (pm_I (pm_setI h x0 7 x2) x0 3) = 0
        · have hf := pm_it hf c13
          obtain ⟨v14, e15, hf⟩ := pm_bd hf
          have K16 := pw_t (by decide) (pw_sI K0 rfl k12 (by decide)) (wfX5_stop (pw_rf _) e15)
          have hf := Option.some.inj hf
          subst hf
          have hi := Option.some.inj (show some _ = some r from hi)
          subst hi
          exact K16
        · have hf := pm_ie hf c13
          cases hf
          exact ih.2.2.1 x0 x2 0 (pm_setI h x0 7 x2) (pw_sI K0 rfl k12 (by decide))  hi
      · have hf := pm_ie hf c11
        obtain ⟨k17, hf⟩ := pm_if hf
        obtain ⟨v18, e19, hf⟩ := pm_bd hf
        obtain ⟨v20, e21, hf⟩ := pm_bd hf
        obtain ⟨v22, e23, hf⟩ := pm_bd hf
        obtain ⟨v24, e25, hf⟩ := pm_lt hf
        obtain ⟨v26, e27, hf⟩ := pm_bd hf
        have K28 := pw_t (by decide) K0 (wfX12_setItem_ (pw_rf _) e27)
        obtain ⟨y29, e30, hf⟩ := pm_lt hf
        cases hf
        exact ih.2.1 x0 x1 x2 x3 x4 y29 v26 K28  hi
    refine ⟨fun x0 x2 x5 h K0 hf => ?_, ?_⟩
    · obtain ⟨y, hf, hi⟩ := pm_iter_s hf
      have hf : tX5_goOn_84 x0 x2 x5 h = some y := hf
      unfold tX5_goOn_84 at hf
      by_cases c31 : x2 ≤ x5
      · have hf := pm_it hf c31
        obtain ⟨k32, hf⟩ := pm_if hf
        obtain ⟨v33, e34, hf⟩ := pm_bd hf
        obtain ⟨k35, hf⟩ := pm_if hf
        obtain ⟨y36, e37, hf⟩ := pm_lt hf
        obtain ⟨v38, e39, hf⟩ := pm_bd hf
        have K40 := pw_t (by decide) (pw_sI (pw_sI K0 rfl k35 (by decide)) (pkI rfl) k32 (by decide)) (wfX5_settle (pw_rf _) e39)
        cases hf
        exact ih.2.2.2 v38 K40  hi
      · have hf := pm_ie hf c31
        obtain ⟨k41, hf⟩ := pm_if hf
        obtain ⟨v42, e43, hf⟩ := pm_bd hf
        obtain ⟨v44, e45, hf⟩ := pm_bd hf
        obtain ⟨k46, hf⟩ := pm_if hf
        obtain ⟨v47, e48, hf⟩ := pm_bd hf
        obtain ⟨v49, e50, hf⟩ := pm_bd hf
        obtain ⟨v51, e52, hf⟩ := pm_bd hf
        have K53 := pw_t (by decide) K0 (wfX12_setItem_ (pw_rf _) e52)
        obtain ⟨y54, e55, hf⟩ := pm_lt hf
        cases hf
        exact ih.2.2.1 x0 x2 y54 v51 K53  hi
    refine fun h K0 hf => ?_
    obtain ⟨y, hf, hi⟩ := pm_iter_s hf
    have hf : tX5_goOn_144 h = some y := hf
    unfold tX5_goOn_144 at hf
    have hf := Option.some.inj hf
    subst hf
    have hi := Option.some.inj (show some _ = some r from hi)
    subst hi
    exact K0
set_option maxHeartbeats 4000000 in
set_option maxRecDepth 100000 in
theorem wfX5_goOn {h0 h : pm_H} (K0 : pw_F WX5_goOn h0 h) {a0 : Nat} {p1 : Nat} {p2 : Int32}  {r : pm_H} (hf : fX5_goOn h a0 p1 p2 = some r) : pw_F WX5_goOn h0 r := by
  unfold fX5_goOn at hf
  obtain ⟨n, hn⟩ := pm_lim_iter hf
  exact (wlX5_goOn n).1 a0 p1 p2 h K0  hn
abbrev WX10_alongTable : List Nat := [1280, 1409, 4352, 4608]
set_option maxHeartbeats 4000000 in
set_option maxRecDepth 100000 in
theorem wfX10_alongTable_b222 {h0 h : pm_H} (K0 : pw_F WX10_alongTable h0 h) {x0 : Nat} {x2 : Int32} {x5 : Int64} {x7 : Int64} {x9 : Int64} {x11 : Int32} {x12 : Int32}  {r : (Int64 × pm_H)} (hf : fX10_alongTable_b222 h x0 x2 x5 x7 x9 x11 x12 = some r) : pw_F WX10_alongTable h0 r.2 := by
  unfold fX10_alongTable_b222 at hf
  by_cases c75 : x2 = 314
  · have hf := pm_it hf c75
    obtain ⟨k76, hf⟩ := pm_if hf
    obtain ⟨v77, e78, hf⟩ := pm_bd hf
    obtain ⟨k79, hf⟩ := pm_if hf
    obtain ⟨v80, e81, hf⟩ := pm_bd hf
    have K82 := pw_t (by decide) K0 (wfX11_copy (pw_rf _) e81)
    by_cases c83 : x2 = 317
    · have hf := pm_it hf c83
      obtain ⟨k84, hf⟩ := pm_if hf
      obtain ⟨v85, e86, hf⟩ := pm_bd hf
      obtain ⟨k87, hf⟩ := pm_if hf
      obtain ⟨v88, e89, hf⟩ := pm_bd hf
      have K90 := pw_t (by decide) K82 (wfX11_fill (pw_rf _) e89)
      have hf := Option.some.inj hf
      subst hf
      exact K90
    · have hf := pm_ie hf c83
      have hf := Option.some.inj hf
      subst hf
      exact K82
  · have hf := pm_ie hf c75
    by_cases c91 : x2 = 317
    · have hf := pm_it hf c91
      obtain ⟨k92, hf⟩ := pm_if hf
      obtain ⟨v93, e94, hf⟩ := pm_bd hf
      obtain ⟨k95, hf⟩ := pm_if hf
      obtain ⟨v96, e97, hf⟩ := pm_bd hf
      have K98 := pw_t (by decide) K0 (wfX11_fill (pw_rf _) e97)
      have hf := Option.some.inj hf
      subst hf
      exact K98
    · have hf := pm_ie hf c91
      have hf := Option.some.inj hf
      subst hf
      exact K0
set_option maxHeartbeats 4000000 in
set_option maxRecDepth 100000 in
theorem wfX10_alongTable_b168 {h0 h : pm_H} (K0 : pw_F WX10_alongTable h0 h) {x0 : Nat} {x1 : Nat} {x2 : Int32} {x3 : Int32} {x5 : Int64} {x7 : Int64} {x9 : Int64} {x11 : Int32} {x12 : Int32} {x13 : Int32}  {r : (Int64 × pm_H)} (hf : fX10_alongTable_b168 h x0 x1 x2 x3 x5 x7 x9 x11 x12 x13 = some r) : pw_F WX10_alongTable h0 r.2 := by
  unfold fX10_alongTable_b168 at hf
  by_cases c56 : x13 = 0
  · have hf := pm_it hf c56
    obtain ⟨k57, hf⟩ := pm_if hf
    have hf := Option.some.inj hf
    subst hf
    exact (pw_sI K0 rfl k57 (by decide))
  · have hf := pm_ie hf c56
    by_cases c58 : x2 = 312
    · have hf := pm_it hf c58
      by_cases c59 : x3 < 0
      · have hf := pm_it hf c59
        exact wfX10_alongTable_b222 K0  hf
      · have hf := pm_ie hf c59
        obtain ⟨k60, hf⟩ := pm_if hf
        obtain ⟨v61, e62, hf⟩ := pm_bd hf
        obtain ⟨k63, hf⟩ := pm_if hf
        by_cases c64 : (Int32.ofNat (pm_ln h v61)) ≤ x3
        · have hf := pm_it hf c64
          exact wfX10_alongTable_b222 K0  hf
        · have hf := pm_ie hf c64
          obtain ⟨k65, hf⟩ := pm_if hf
          obtain ⟨v66, e67, hf⟩ := pm_bd hf
          obtain ⟨u68, hf⟩ := pm_if hf
          obtain ⟨v69, e70, hf⟩ := pm_bd hf
          obtain ⟨k71, hf⟩ := pm_if hf
          obtain ⟨v72, e73, hf⟩ := pm_bd hf
          have K74 := pw_t (by decide) K0 (wfX11_copyFrom (pw_rf _) e73)
          exact wfX10_alongTable_b222 K74  hf
    · have hf := pm_ie hf c58
      exact wfX10_alongTable_b222 K0  hf
set_option maxHeartbeats 4000000 in
set_option maxRecDepth 100000 in
theorem wfX10_alongTable_b72 {h0 h : pm_H} (K0 : pw_F WX10_alongTable h0 h) {s0 : Int32}  {r : (Int64 × pm_H)} (hf : fX10_alongTable_b72 h s0 = some r) : pw_F WX10_alongTable h0 r.2 := by
  unfold fX10_alongTable_b72 at hf
  have hf := Option.some.inj hf
  subst hf
  exact K0
set_option maxHeartbeats 4000000 in
set_option maxRecDepth 100000 in
theorem wfX10_alongTable_b142 {h0 h : pm_H} (K0 : pw_F WX10_alongTable h0 h) {x0 : Nat} {x1 : Nat} {x2 : Int32} {x3 : Int32} {x5 : Int64} {x7 : Int64} {x9 : Int64} {x11 : Int32} {x12 : Int32} {x13 : Int32}  {r : (Int64 × pm_H)} (hf : fX10_alongTable_b142 h x0 x1 x2 x3 x5 x7 x9 x11 x12 x13 = some r) : pw_F WX10_alongTable h0 r.2 := by
  unfold fX10_alongTable_b142 at hf
  by_cases c48 : x2 = 314
  · have hf := pm_it hf c48
    obtain ⟨k49, hf⟩ := pm_if hf
    obtain ⟨v50, e51, hf⟩ := pm_bd hf
    obtain ⟨k52, hf⟩ := pm_if hf
    obtain ⟨v53, e54, hf⟩ := pm_bd hf
    by_cases c55 : v53 = 0
    · have hf := pm_it hf c55
      exact wfX10_alongTable_b168 K0  hf
    · have hf := pm_ie hf c55
      exact wfX10_alongTable_b168 K0  hf
  · have hf := pm_ie hf c48
    exact wfX10_alongTable_b168 K0  hf
set_option maxHeartbeats 4000000 in
set_option maxRecDepth 100000 in
theorem wfX10_alongTable_b35 {h0 h : pm_H} (K0 : pw_F WX10_alongTable h0 h) {x0 : Nat} {x1 : Nat} {x2 : Int32} {x3 : Int32} {x4 : Int32} {x5 : Int64} {x7 : Int64} {x9 : Int64} {s0 : Int32} {s1 : Nat}  {r : (Int64 × pm_H)} (hf : fX10_alongTable_b35 h x0 x1 x2 x3 x4 x5 x7 x9 s0 s1 = some r) : pw_F WX10_alongTable h0 r.2 := by
  unfold fX10_alongTable_b35 at hf
  obtain ⟨v12, e13, hf⟩ := pm_bd hf
  obtain ⟨k14, hf⟩ := pm_if hf
  obtain ⟨v15, e16, hf⟩ := pm_bd hf
  obtain ⟨v17, e18, hf⟩ := pm_bd hf
  by_cases c19 : x2 = 315
  · have hf := pm_it hf c19
    obtain ⟨k20, hf⟩ := pm_if hf
    obtain ⟨v21, e22, hf⟩ := pm_bd hf
    obtain ⟨k23, hf⟩ := pm_if hf
    obtain ⟨v24, e25, hf⟩ := pm_bd hf
    have K26 := pw_t (by decide) K0 (wfX11_grow (pw_rf _) e25)
    exact wfX10_alongTable_b72 K26  hf
  · have hf := pm_ie hf c19
    by_cases c27 : x2 = 316
    · have hf := pm_it hf c27
      obtain ⟨k28, hf⟩ := pm_if hf
      obtain ⟨v29, e30, hf⟩ := pm_bd hf
      obtain ⟨k31, hf⟩ := pm_if hf
      obtain ⟨v32, e33, hf⟩ := pm_bd hf
      obtain ⟨v34, e35, hf⟩ := pm_bd hf
      have hf := Option.some.inj hf
      subst hf
      exact K0
    · have hf := pm_ie hf c27
      obtain ⟨k36, hf⟩ := pm_if hf
      obtain ⟨v37, e38, hf⟩ := pm_bd hf
      obtain ⟨k39, hf⟩ := pm_if hf
      obtain ⟨v40, e41, hf⟩ := pm_bd hf
      by_cases c42 : x2 = 312
      · have hf := pm_it hf c42
        obtain ⟨v43, e44, hf⟩ := pm_bd hf
        obtain ⟨v45, e46, hf⟩ := pm_bd hf
        by_cases c47 : (x7 + x9) ≤ v45.toInt64
        · have hf := pm_it hf c47
          exact wfX10_alongTable_b142 K0  hf
        · have hf := pm_ie hf c47
          exact wfX10_alongTable_b142 K0  hf
      · have hf := pm_ie hf c42
        exact wfX10_alongTable_b142 K0  hf
set_option maxHeartbeats 4000000 in
set_option maxRecDepth 100000 in
theorem wfX10_alongTable_b0 {h0 h : pm_H} (K0 : pw_F WX10_alongTable h0 h) {x0 : Nat} {x1 : Nat} {x2 : Int32} {x3 : Int32} {x4 : Int32} {x5 : Int64} {x7 : Int64} {x9 : Int64}  {r : (Int64 × pm_H)} (hf : fX10_alongTable_b0 h x0 x1 x2 x3 x4 x5 x7 x9 = some r) : pw_F WX10_alongTable h0 r.2 := by
  unfold fX10_alongTable_b0 at hf
  by_cases c1 : x2 = 313
  · have hf := pm_it hf c1
    obtain ⟨k2, hf⟩ := pm_if hf
    obtain ⟨v3, e4, hf⟩ := pm_bd hf
    obtain ⟨v5, e6, hf⟩ := pm_bd hf
    have K7 := pw_t (by decide) K0 (wfX12_setItem (pw_rf _) e6)
    have hf := Option.some.inj hf
    subst hf
    exact K7
  · have hf := pm_ie hf c1
    obtain ⟨k8, hf⟩ := pm_if hf
    obtain ⟨v9, e10, hf⟩ := pm_bd hf
    by_cases c11 : x2 = 312
    · have hf := pm_it hf c11
      exact wfX10_alongTable_b35 K0  hf
    · have hf := pm_ie hf c11
      exact wfX10_alongTable_b35 K0  hf
set_option maxHeartbeats 4000000 in
set_option maxRecDepth 100000 in
theorem wfX10_alongTable {h0 h : pm_H} (K0 : pw_F WX10_alongTable h0 h) {a0 : Nat} {p1 : Nat} {p2 : Int32} {p3 : Int32} {p4 : Int32} {p5 : Int64} {p6 : Int64} {p7 : Int64}  {r : (Int64 × pm_H)} (hf : fX10_alongTable h a0 p1 p2 p3 p4 p5 p6 p7 = some r) : pw_F WX10_alongTable h0 r.2 := by
  unfold fX10_alongTable at hf
  exact wfX10_alongTable_b0 K0  hf
abbrev WX11_create : List Nat := [1408, 1409, 4352, 4480, 4608]
set_option maxHeartbeats 4000000 in
set_option maxRecDepth 100000 in
theorem wfX11_create_b55 {h0 h : pm_H} (K0 : pw_F WX11_create h0 h) {x6 : Int32} {s0 : Int32}  {r : (Int32 × pm_H)} (hf : fX11_create_b55 h x6 s0 = some r) : pw_F WX11_create h0 r.2 := by
  unfold fX11_create_b55 at hf
  have hf := Option.some.inj hf
  subst hf
  exact K0
set_option maxHeartbeats 4000000 in
set_option maxRecDepth 100000 in
theorem wfX11_create_b0 {h0 h : pm_H} (K0 : pw_F WX11_create h0 h) {x0 : Nat} {x1 : Int32} {x2 : Int64} {x4 : Int64}  {r : (Int32 × pm_H)} (hf : fX11_create_b0 h x0 x1 x2 x4 = some r) : pw_F WX11_create h0 r.2 := by
  unfold fX11_create_b0 at hf
  obtain ⟨k1, hf⟩ := pm_if hf
  obtain ⟨y2, e3, hf⟩ := pm_lt hf
  obtain ⟨y4, e5, hf⟩ := pm_lt hf
  obtain ⟨v6, e7, hf⟩ := pm_bd hf
  obtain ⟨v8, e9, hf⟩ := pm_bd hf
  have K10 := pw_t (by decide) (pw_sI K0 rfl k1 (by decide)) (wfX12_setItem (pw_rf _) e9)
  obtain ⟨k11, hf⟩ := pm_if hf
  obtain ⟨v12, e13, hf⟩ := pm_bd hf
  obtain ⟨v14, e15, hf⟩ := pm_bd hf
  have K16 := pw_t (by decide) K10 (wfX12_setItem (pw_rf _) e15)
  obtain ⟨k17, hf⟩ := pm_if hf
  obtain ⟨v18, e19, hf⟩ := pm_bd hf
  obtain ⟨v20, e21, hf⟩ := pm_bd hf
  have K22 := pw_t (by decide) K16 (wfX12_setItem_ (pw_rf _) e21)
  obtain ⟨k23, hf⟩ := pm_if hf
  obtain ⟨v24, e25, hf⟩ := pm_bd hf
  have K26 := pw_t (by decide) K22 (wfX11_grow (pw_rf _) e25)
  exact wfX11_create_b55 K26  hf
set_option maxHeartbeats 4000000 in
set_option maxRecDepth 100000 in
theorem wfX11_create {h0 h : pm_H} (K0 : pw_F WX11_create h0 h) {a0 : Nat} {p1 : Int32} {p2 : Int64} {p3 : Int64}  {r : (Int32 × pm_H)} (hf : fX11_create h a0 p1 p2 p3 = some r) : pw_F WX11_create h0 r.2 := by
  unfold fX11_create at hf
  exact wfX11_create_b0 K0  hf
abbrev WX12_answer : List Nat := [6, 7, 8, 256, 257, 258, 259, 260, 261, 262, 263, 264, 265, 267, 268, 386, 387, 389, 390, 391, 640, 643, 647, 652, 653, 654, 1551, 4096, 4352, 4480]
set_option maxHeartbeats 4000000 in
set_option maxRecDepth 100000 in
theorem wfX12_answer_b65 {h0 h : pm_H} (K0 : pw_F WX12_answer h0 h) {x0 : Nat}  {r : (Int32 × pm_H)} (hf : fX12_answer_b65 h x0 = some r) : pw_F WX12_answer h0 r.2 := by
  unfold fX12_answer_b65 at hf
  obtain ⟨k23, hf⟩ := pm_if hf
  have hf := Option.some.inj hf
  subst hf
  exact (pw_sI K0 rfl k23 (by decide))
set_option maxHeartbeats 4000000 in
set_option maxRecDepth 100000 in
theorem wfX12_answer_b0 {h0 h : pm_H} (K0 : pw_F WX12_answer h0 h) {x0 : Nat}  {r : (Int32 × pm_H)} (hf : fX12_answer_b0 h x0 = some r) : pw_F WX12_answer h0 r.2 := by
  unfold fX12_answer_b0 at hf
  obtain ⟨k1, hf⟩ := pm_if hf
  obtain ⟨v2, e3, hf⟩ := pm_bd hf
  obtain ⟨k4, hf⟩ := pm_if hf
  by_cases c5 : (pm_I h v2 0) = 5
  · have hf := pm_it hf c5
    obtain ⟨v6, e7, hf⟩ := pm_bd hf
    obtain ⟨k8, hf⟩ := pm_if hf
    obtain ⟨v9, e10, hf⟩ := pm_bd hf
    obtain ⟨v11, e12, hf⟩ := pm_bd hf
    obtain ⟨v13, e14, hf⟩ := pm_bd hf
    obtain ⟨v15, e16, hf⟩ := pm_bd hf
    by_cases c17 : v15 = 0
    · have hf := pm_it hf c17
      have hf := Option.some.inj hf
      subst hf
      exact K0
    · have hf := pm_ie hf c17
      obtain ⟨v18, e19, hf⟩ := pm_bd hf
      obtain ⟨v20, e21, hf⟩ := pm_bd hf
      have K22 := pw_t (by decide) K0 (wfX5_goOn (pw_rf _) e21)
      exact wfX12_answer_b65 K22  hf
  · have hf := pm_ie hf c5
    have hf := Option.some.inj hf
    subst hf
    exact K0
set_option maxHeartbeats 4000000 in
set_option maxRecDepth 100000 in
theorem wfX12_answer {h0 h : pm_H} (K0 : pw_F WX12_answer h0 h) {a0 : Nat}  {r : (Int32 × pm_H)} (hf : fX12_answer h a0 = some r) : pw_F WX12_answer h0 r.2 := by
  unfold fX12_answer at hf
  exact wfX12_answer_b0 K0  hf
abbrev WX12_call : List Nat := [6, 7, 8, 256, 257, 258, 259, 260, 261, 262, 263, 264, 265, 267, 268, 384, 385, 386, 387, 388, 389, 390, 391, 640, 642, 643, 644, 647, 652, 653, 654, 1282, 1551, 4096, 4352, 4480]
set_option maxHeartbeats 4000000 in
set_option maxRecDepth 100000 in
theorem wfX12_call_b82 {h0 h : pm_H} (K0 : pw_F WX12_call h0 h) {x0 : Nat}  {r : (Int32 × pm_H)} (hf : fX12_call_b82 h x0 = some r) : pw_F WX12_call h0 r.2 := by
  unfold fX12_call_b82 at hf
  obtain ⟨k31, hf⟩ := pm_if hf
  have hf := Option.some.inj hf
  subst hf
  exact (pw_sI K0 rfl k31 (by decide))
set_option maxHeartbeats 4000000 in
set_option maxRecDepth 100000 in
theorem wfX12_call_b0 {h0 h : pm_H} (K0 : pw_F WX12_call h0 h) {x0 : Nat} {x1 : Int32} {x2 : Int32}  {r : (Int32 × pm_H)} (hf : fX12_call_b0 h x0 x1 x2 = some r) : pw_F WX12_call h0 r.2 := by
  unfold fX12_call_b0 at hf
  obtain ⟨k1, hf⟩ := pm_if hf
  obtain ⟨v2, e3, hf⟩ := pm_bd hf
  obtain ⟨k4, hf⟩ := pm_if hf
  obtain ⟨v5, e6, hf⟩ := pm_bd hf
  obtain ⟨v7, e8, hf⟩ := pm_bd hf
  obtain ⟨k9, hf⟩ := pm_if hf
  obtain ⟨v10, e11, hf⟩ := pm_bd hf
  by_cases c12 : v10 = 0
  · have hf := pm_it hf c12
    obtain ⟨k13, hf⟩ := pm_if hf
    obtain ⟨v14, e15, hf⟩ := pm_bd hf
    by_cases c16 : v14 = 0
    · have hf := pm_it hf c16
      obtain ⟨v17, e18, hf⟩ := pm_bd hf
      obtain ⟨v19, e20, hf⟩ := pm_bd hf
      obtain ⟨v21, e22, hf⟩ := pm_bd hf
      obtain ⟨v23, e24, hf⟩ := pm_bd hf
      by_cases c25 : v23 = 0
      · have hf := pm_it hf c25
        have hf := Option.some.inj hf
        subst hf
        exact K0
      · have hf := pm_ie hf c25
        obtain ⟨v26, e27, hf⟩ := pm_bd hf
        obtain ⟨v28, e29, hf⟩ := pm_bd hf
        have K30 := pw_t (by decide) K0 (wfX5_begin (pw_rf _) e29)
        exact wfX12_call_b82 K30  hf
    · have hf := pm_ie hf c16
      have hf := Option.some.inj hf
      subst hf
      exact K0
  · have hf := pm_ie hf c12
    have hf := Option.some.inj hf
    subst hf
    exact K0
set_option maxHeartbeats 4000000 in
set_option maxRecDepth 100000 in
theorem wfX12_call {h0 h : pm_H} (K0 : pw_F WX12_call h0 h) {a0 : Nat} {p1 : Int32} {p2 : Int32}  {r : (Int32 × pm_H)} (hf : fX12_call h a0 p1 p2 = some r) : pw_F WX12_call h0 r.2 := by
  unfold fX12_call at hf
  exact wfX12_call_b0 K0  hf
abbrev WX1_init : List Nat := [0, 1, 5, 7, 8, 130, 131, 132, 133, 137, 139, 141, 143, 144, 145, 4352, 4608]
set_option maxHeartbeats 4000000 in
set_option maxRecDepth 100000 in
theorem wlX1_init {h0 : pm_H} {r : pm_H} : ∀ n : Nat, (∀ (x0 : Nat) (x1 : Nat) (x2 : Nat) (h : pm_H), pw_F WX1_init h0 h → pm_iter sX1_init n (.inl (x0, x1, x2, h)) = some r → pw_F WX1_init h0 r) ∧ (∀ (x0 : Nat) (x1 : Nat) (x2 : Nat) (s0 : Nat) (s1 : Nat) (h : pm_H), pw_F WX1_init h0 h → pm_iter sX1_init n (.inr (.inl (x0, x1, x2, s0, s1, h))) = some r → pw_F WX1_init h0 r) ∧ (∀ (x0 : Nat) (x1 : Nat) (x2 : Nat) (s0 : Nat) (s1 : Nat) (h : pm_H), pw_F WX1_init h0 h → pm_iter sX1_init n (.inr (.inr (.inl (x0, x1, x2, s0, s1, h)))) = some r → pw_F WX1_init h0 r) ∧ (∀ (x0 : Nat) (x1 : Nat) (x2 : Nat) (s0 : Nat) (s1 : Nat) (h : pm_H), pw_F WX1_init h0 h → pm_iter sX1_init n (.inr (.inr (.inr (.inl (x0, x1, x2, s0, s1, h))))) = some r → pw_F WX1_init h0 r) ∧ (∀ (x0 : Nat) (x1 : Nat) (x2 : Nat) (s0 : Nat) (s1 : Nat) (h : pm_H), pw_F WX1_init h0 h → pm_iter sX1_init n (.inr (.inr (.inr (.inr (.inl (x0, x1, x2, s0, s1, h)))))) = some r → pw_F WX1_init h0 r) ∧ (∀ (x0 : Nat) (x1 : Nat) (x2 : Nat) (s0 : Nat) (s1 : Nat) (h : pm_H), pw_F WX1_init h0 h → pm_iter sX1_init n (.inr (.inr (.inr (.inr (.inr (.inl (x0, x1, x2, s0, s1, h))))))) = some r → pw_F WX1_init h0 r) ∧ (∀ (x0 : Nat) (x1 : Nat) (x2 : Nat) (s0 : Nat) (s1 : Nat) (h : pm_H), pw_F WX1_init h0 h → pm_iter sX1_init n (.inr (.inr (.inr (.inr (.inr (.inr (.inl (x0, x1, x2, s0, s1, h)))))))) = some r → pw_F WX1_init h0 r) ∧ (∀ (x0 : Nat) (x1 : Nat) (x2 : Nat) (s0 : Nat) (s1 : Nat) (h : pm_H), pw_F WX1_init h0 h → pm_iter sX1_init n (.inr (.inr (.inr (.inr (.inr (.inr (.inr (.inl (x0, x1, x2, s0, s1, h))))))))) = some r → pw_F WX1_init h0 r) ∧ (∀ (x0 : Nat) (s0 : Nat) (s1 : Nat) (h : pm_H), pw_F WX1_init h0 h → pm_iter sX1_init n (.inr (.inr (.inr (.inr (.inr (.inr (.inr (.inr (.inl (x0, s0, s1, h)))))))))) = some r → pw_F WX1_init h0 r) ∧ (∀ (x0 : Nat) (s0 : Nat) (s1 : Nat) (s2 : Nat) (s3 : Nat) (h : pm_H), pw_F WX1_init h0 h → pm_iter sX1_init n (.inr (.inr (.inr (.inr (.inr (.inr (.inr (.inr (.inr (.inl (x0, s0, s1, s2, s3, h))))))))))) = some r → pw_F WX1_init h0 r) ∧ (∀ (x0 : Nat) (s0 : Nat) (s1 : Nat) (h : pm_H), pw_F WX1_init h0 h → pm_iter sX1_init n (.inr (.inr (.inr (.inr (.inr (.inr (.inr (.inr (.inr (.inr (.inl (x0, s0, s1, h)))))))))))) = some r → pw_F WX1_init h0 r) ∧ (∀ (x0 : Nat) (s0 : Nat) (s1 : Int32) (s2 : Nat) (h : pm_H), pw_F WX1_init h0 h → pm_iter sX1_init n (.inr (.inr (.inr (.inr (.inr (.inr (.inr (.inr (.inr (.inr (.inr (.inl (x0, s0, s1, s2, h))))))))))))) = some r → pw_F WX1_init h0 r) ∧ (∀ (x0 : Nat) (x3 : Int32) (h : pm_H), pw_F WX1_init h0 h → pm_iter sX1_init n (.inr (.inr (.inr (.inr (.inr (.inr (.inr (.inr (.inr (.inr (.inr (.inr (.inl (x0, x3, h)))))))))))))) = some r → pw_F WX1_init h0 r) ∧ (∀ (x0 : Nat) (x3 : Int32) (s0 : Nat) (s1 : Int32) (s2 : Nat) (h : pm_H), pw_F WX1_init h0 h → pm_iter sX1_init n (.inr (.inr (.inr (.inr (.inr (.inr (.inr (.inr (.inr (.inr (.inr (.inr (.inr (x0, x3, s0, s1, s2, h)))))))))))))) = some r → pw_F WX1_init h0 r) := by
  intro n
  induction n with
  | zero => exact ⟨fun _ _ _ _ _ hf => (by cases hf), fun _ _ _ _ _ _ _ hf => (by cases hf), fun _ _ _ _ _ _ _ hf => (by cases hf), fun _ _ _ _ _ _ _ hf => (by cases hf), fun _ _ _ _ _ _ _ hf => (by cases hf), fun _ _ _ _ _ _ _ hf => (by cases hf), fun _ _ _ _ _ _ _ hf => (by cases hf), fun _ _ _ _ _ _ _ hf => (by cases hf), fun _ _ _ _ _ hf => (by cases hf), fun _ _ _ _ _ _ _ hf => (by cases hf), fun _ _ _ _ _ hf => (by cases hf), fun _ _ _ _ _ _ hf => (by cases hf), fun _ _ _ _ hf => (by cases hf), fun _ _ _ _ _ _ _ hf => (by cases hf)⟩
  | succ n ih =>
    refine ⟨fun x0 x1 x2 h K0 hf => ?_, ?_⟩
    · obtain ⟨y, hf, hi⟩ := pm_iter_s hf
      have hf : tX1_init_0 x0 x1 x2 h = some y := hf
      unfold tX1_init_0 at hf
      cases hf
      exact ih.2.1 x0 x1 x2 (pm_sz h) x0 (pm_new h 32 0) (pw_new K0)  hi
    refine ⟨fun x0 x1 x2 s0 s1 h K0 hf => ?_, ?_⟩
    · obtain ⟨y, hf, hi⟩ := pm_iter_s hf
      have hf : tX1_init_8 x0 x1 x2 s0 s1 h = some y := hf
      unfold tX1_init_8 at hf
      obtain ⟨k1, hf⟩ := pm_if hf
      cases hf
      exact ih.2.2.1 x0 x1 x2 (pm_sz (pm_setR h s1 4 (some s0))) x0 (pm_new (pm_setR h s1 4 (some s0)) 34 1000) (pw_new (pw_sR K0 rfl k1 (by decide)))  hi
    refine ⟨fun x0 x1 x2 s0 s1 h K0 hf => ?_, ?_⟩
    · obtain ⟨y, hf, hi⟩ := pm_iter_s hf
      have hf : tX1_init_17 x0 x1 x2 s0 s1 h = some y := hf
      unfold tX1_init_17 at hf
      obtain ⟨k2, hf⟩ := pm_if hf
      cases hf
      exact ih.2.2.2.1 x0 x1 x2 (pm_sz (pm_setR h s1 5 (some s0))) x0 (pm_new (pm_setR h s1 5 (some s0)) 34 1400) (pw_new (pw_sR K0 rfl k2 (by decide)))  hi
    refine ⟨fun x0 x1 x2 s0 s1 h K0 hf => ?_, ?_⟩
    · obtain ⟨y, hf, hi⟩ := pm_iter_s hf
      have hf : tX1_init_26 x0 x1 x2 s0 s1 h = some y := hf
      unfold tX1_init_26 at hf
      obtain ⟨k3, hf⟩ := pm_if hf
      cases hf
      exact ih.2.2.2.2.1 x0 x1 x2 (pm_sz (pm_setR h s1 9 (some s0))) x0 (pm_new (pm_setR h s1 9 (some s0)) 34 1016) (pw_new (pw_sR K0 rfl k3 (by decide)))  hi
    refine ⟨fun x0 x1 x2 s0 s1 h K0 hf => ?_, ?_⟩
    · obtain ⟨y, hf, hi⟩ := pm_iter_s hf
      have hf : tX1_init_35 x0 x1 x2 s0 s1 h = some y := hf
      unfold tX1_init_35 at hf
      obtain ⟨k4, hf⟩ := pm_if hf
      cases hf
      exact ih.2.2.2.2.2.1 x0 x1 x2 (pm_sz (pm_setR h s1 11 (some s0))) x0 (pm_new (pm_setR h s1 11 (some s0)) 34 2000) (pw_new (pw_sR K0 rfl k4 (by decide)))  hi
    refine ⟨fun x0 x1 x2 s0 s1 h K0 hf => ?_, ?_⟩
    · obtain ⟨y, hf, hi⟩ := pm_iter_s hf
      have hf : tX1_init_44 x0 x1 x2 s0 s1 h = some y := hf
      unfold tX1_init_44 at hf
      obtain ⟨k5, hf⟩ := pm_if hf
      cases hf
      exact ih.2.2.2.2.2.2.1 x0 x1 x2 (pm_sz (pm_setR h s1 13 (some s0))) x0 (pm_new (pm_setR h s1 13 (some s0)) 34 16) (pw_new (pw_sR K0 rfl k5 (by decide)))  hi
    refine ⟨fun x0 x1 x2 s0 s1 h K0 hf => ?_, ?_⟩
    · obtain ⟨y, hf, hi⟩ := pm_iter_s hf
      have hf : tX1_init_52 x0 x1 x2 s0 s1 h = some y := hf
      unfold tX1_init_52 at hf
      obtain ⟨k6, hf⟩ := pm_if hf
      cases hf
      exact ih.2.2.2.2.2.2.2.1 x0 x1 x2 (pm_sz (pm_setR h s1 15 (some s0))) x0 (pm_ma (pm_setR h s1 15 (some s0)) 4 2 128 128) (pw_ma (pw_sR K0 rfl k6 (by decide)))  hi
    refine ⟨fun x0 x1 x2 s0 s1 h K0 hf => ?_, ?_⟩
    · obtain ⟨y, hf, hi⟩ := pm_iter_s hf
      have hf : tX1_init_64 x0 x1 x2 s0 s1 h = some y := hf
      unfold tX1_init_64 at hf
      obtain ⟨k7, hf⟩ := pm_if hf
      obtain ⟨k8, hf⟩ := pm_if hf
      have k8b := (congrFun (pkR rfl) x0).symm.trans k8
      cases hf
      exact ih.2.2.2.2.2.2.2.2.1 x0 (pm_sz (pm_setR (pm_setR (pm_setR h s1 16 (some s0)) x0 3 (some x1)) x0 2 (some x2))) x0 (pm_new (pm_setR (pm_setR (pm_setR h s1 16 (some s0)) x0 3 (some x1)) x0 2 (some x2)) 0 0) (pw_new (pw_sR (pw_sR (pw_sR K0 rfl k7 (by decide)) (pkR rfl) k8b (by decide)) (pkR (pkR rfl)) k8b (by decide)))  hi
    refine ⟨fun x0 s0 s1 h K0 hf => ?_, ?_⟩
    · obtain ⟨y, hf, hi⟩ := pm_iter_s hf
      have hf : tX1_init_81 x0 s0 s1 h = some y := hf
      unfold tX1_init_81 at hf
      cases hf
      exact ih.2.2.2.2.2.2.2.2.2.1 x0 (pm_sz h) s0 s0 s1 (pm_new h 34 2) (pw_new K0)  hi
    refine ⟨fun x0 s0 s1 s2 s3 h K0 hf => ?_, ?_⟩
    · obtain ⟨y, hf, hi⟩ := pm_iter_s hf
      have hf : tX1_init_85 x0 s0 s1 s2 s3 h = some y := hf
      unfold tX1_init_85 at hf
      obtain ⟨v9, e10, hf⟩ := pm_bd hf
      have K11 := pw_t (by decide) K0 (wfX0_init (pw_rf _) e10)
      cases hf
      exact ih.2.2.2.2.2.2.2.2.2.2.1 x0 s2 s3 v9 K11  hi
    refine ⟨fun x0 s0 s1 h K0 hf => ?_, ?_⟩
    · obtain ⟨y, hf, hi⟩ := pm_iter_s hf
      have hf : tX1_init_89 x0 s0 s1 h = some y := hf
      unfold tX1_init_89 at hf
      obtain ⟨k12, hf⟩ := pm_if hf
      obtain ⟨k13, hf⟩ := pm_if hf
      have k13b := (congrFun (pkR rfl) x0).symm.trans k13
      obtain ⟨v14, e15, hf⟩ := pm_bd hf
      cases hf
      exact ih.2.2.2.2.2.2.2.2.2.2.2.1 x0 (pm_sz (pm_setR h s1 17 (some s0))) 64 v14 (pm_new (pm_setR h s1 17 (some s0)) 34 2) (pw_new (pw_sR K0 rfl k12 (by decide)))  hi
    refine ⟨fun x0 s0 s1 s2 h K0 hf => ?_, ?_⟩
    · obtain ⟨y, hf, hi⟩ := pm_iter_s hf
      have hf : tX1_init_101 x0 s0 s1 s2 h = some y := hf
      unfold tX1_init_101 at hf
      obtain ⟨k16, hf⟩ := pm_if hf
      obtain ⟨k17, hf⟩ := pm_if hf
      obtain ⟨u18, hf⟩ := pm_if hf
      cases hf
      exact ih.2.2.2.2.2.2.2.2.2.2.2.2.1 x0 111 (pm_setR h s2 s1.toNatClampNeg (some s0)) (pw_aR K0 rfl k16 (by decide) (by decide))  hi
    refine ⟨fun x0 x3 h K0 hf => ?_, ?_⟩
    · obtain ⟨y, hf, hi⟩ := pm_iter_s hf
      have hf : tX1_init_105 x0 x3 h = some y := hf
      unfold tX1_init_105 at hf
      by_cases c19 : 127 < x3
      · have hf := pm_it hf c19
        have hf := Option.some.inj hf
        subst hf
        have hi := Option.some.inj (show some _ = some r from hi)
        subst hi
        exact K0
      · have hf := pm_ie hf c19
        obtain ⟨k20, hf⟩ := pm_if hf
        obtain ⟨v21, e22, hf⟩ := pm_bd hf
        cases hf
        exact ih.2.2.2.2.2.2.2.2.2.2.2.2.2 x0 x3 (pm_sz h) x3 v21 (pm_new h 34 3) (pw_new K0)  hi
    refine fun x0 x3 s0 s1 s2 h K0 hf => ?_
    obtain ⟨y, hf, hi⟩ := pm_iter_s hf
    have hf : tX1_init_119 x0 x3 s0 s1 s2 h = some y := hf
    unfold tX1_init_119 at hf
    obtain ⟨k23, hf⟩ := pm_if hf
    obtain ⟨u24, hf⟩ := pm_if hf
    obtain ⟨u25, hf⟩ := pm_if hf
    obtain ⟨u26, hf⟩ := pm_if hf
    obtain ⟨k27, hf⟩ := pm_if hf
    have k27b := (congrFun (pkI (pkI (pkI rfl))) s2).symm.trans k27
    obtain ⟨u28, hf⟩ := pm_if hf
    obtain ⟨y29, e30, hf⟩ := pm_lt hf
    cases hf
    exact ih.2.2.2.2.2.2.2.2.2.2.2.2.1 x0 y29 (pm_setR (pm_setI (pm_setI (pm_setI h s0 ((0 : Int32).toNatClampNeg) 0) s0 ((1 : Int32).toNatClampNeg) 1) s0 ((2 : Int32).toNatClampNeg) x3) s2 s1.toNatClampNeg (some s0)) (pw_aR (pw_aI (pw_aI (pw_aI K0 rfl k23 (by decide) (by decide)) (pkI rfl) k23 (by decide) (by decide)) (pkI (pkI rfl)) k23 (by decide) (by decide)) (pkI (pkI (pkI rfl))) k27b (by decide) (by decide))  hi
set_option maxHeartbeats 4000000 in
set_option maxRecDepth 100000 in
theorem wfX1_init {h0 h : pm_H} (K0 : pw_F WX1_init h0 h) {a0 : Nat} {p1 : Nat} {p2 : Nat}  {r : pm_H} (hf : fX1_init h a0 p1 p2 = some r) : pw_F WX1_init h0 r := by
  unfold fX1_init at hf
  obtain ⟨n, hn⟩ := pm_lim_iter hf
  exact (wlX1_init n).1 a0 p1 p2 h K0  hn
abbrev WX4_init : List Nat := [512, 513, 514, 515, 516, 517, 518, 519]
set_option maxHeartbeats 4000000 in
set_option maxRecDepth 100000 in
theorem wfX4_init_b92 {h0 h : pm_H} (K0 : pw_F WX4_init h0 h) {s0 : Nat} {s1 : Nat}  {r : pm_H} (hf : fX4_init_b92 h s0 s1 = some r) : pw_F WX4_init h0 r := by
  unfold fX4_init_b92 at hf
  obtain ⟨k43, hf⟩ := pm_if hf
  have hf := Option.some.inj hf
  subst hf
  exact (pw_sR K0 rfl k43 (by decide))
set_option maxHeartbeats 4000000 in
set_option maxRecDepth 100000 in
theorem wfX4_init_b78 {h0 h : pm_H} (K0 : pw_F WX4_init h0 h) {x0 : Nat} {x1 : Nat} {s0 : Nat} {s1 : Nat}  {r : pm_H} (hf : fX4_init_b78 h x0 x1 s0 s1 = some r) : pw_F WX4_init h0 r := by
  unfold fX4_init_b78 at hf
  obtain ⟨k35, hf⟩ := pm_if hf
  obtain ⟨k36, hf⟩ := pm_if hf
  have k36b := (congrFun (pkR rfl) x1).symm.trans k36
  obtain ⟨v37, e38, hf⟩ := pm_bd hf
  obtain ⟨k39, hf⟩ := pm_if hf
  have k39b := (congrFun (pkR rfl) v37).symm.trans k39
  obtain ⟨y40, e41, hf⟩ := pm_lt hf
  obtain ⟨u42, hf⟩ := pm_if hf
  exact wfX4_init_b92 (pw_new (pw_sR K0 rfl k35 (by decide)))  hf
set_option maxHeartbeats 4000000 in
set_option maxRecDepth 100000 in
theorem wfX4_init_b67 {h0 h : pm_H} (K0 : pw_F WX4_init h0 h) {x0 : Nat} {x1 : Nat} {s0 : Nat} {s1 : Nat}  {r : pm_H} (hf : fX4_init_b67 h x0 x1 s0 s1 = some r) : pw_F WX4_init h0 r := by
  unfold fX4_init_b67 at hf
  obtain ⟨k27, hf⟩ := pm_if hf
  obtain ⟨k28, hf⟩ := pm_if hf
  have k28b := (congrFun (pkR rfl) x0).symm.trans k28
  obtain ⟨v29, e30, hf⟩ := pm_bd hf
  obtain ⟨k31, hf⟩ := pm_if hf
  have k31b := (congrFun (pkR rfl) v29).symm.trans k31
  obtain ⟨y32, e33, hf⟩ := pm_lt hf
  obtain ⟨u34, hf⟩ := pm_if hf
  exact wfX4_init_b78 (pw_new (pw_sR K0 rfl k27 (by decide)))  hf
set_option maxHeartbeats 4000000 in
set_option maxRecDepth 100000 in
theorem wfX4_init_b50 {h0 h : pm_H} (K0 : pw_F WX4_init h0 h) {x0 : Nat} {x1 : Nat} {s0 : Nat} {s1 : Nat}  {r : pm_H} (hf : fX4_init_b50 h x0 x1 s0 s1 = some r) : pw_F WX4_init h0 r := by
  unfold fX4_init_b50 at hf
  obtain ⟨k21, hf⟩ := pm_if hf
  obtain ⟨k22, hf⟩ := pm_if hf
  have k22b := (congrFun (pkR rfl) x1).symm.trans k22
  obtain ⟨v23, e24, hf⟩ := pm_bd hf
  obtain ⟨k25, hf⟩ := pm_if hf
  have k25b := (congrFun (pkR rfl) v23).symm.trans k25
  obtain ⟨u26, hf⟩ := pm_if hf
  exact wfX4_init_b67 (pw_ma (pw_sR K0 rfl k21 (by decide)))  hf
set_option maxHeartbeats 4000000 in
set_option maxRecDepth 100000 in
theorem wfX4_init_b39 {h0 h : pm_H} (K0 : pw_F WX4_init h0 h) {x0 : Nat} {x1 : Nat} {s0 : Nat} {s1 : Nat}  {r : pm_H} (hf : fX4_init_b39 h x0 x1 s0 s1 = some r) : pw_F WX4_init h0 r := by
  unfold fX4_init_b39 at hf
  obtain ⟨k16, hf⟩ := pm_if hf
  obtain ⟨k17, hf⟩ := pm_if hf
  have k17b := (congrFun (pkR rfl) x1).symm.trans k17
  obtain ⟨v18, e19, hf⟩ := pm_bd hf
  obtain ⟨u20, hf⟩ := pm_if hf
  exact wfX4_init_b50 (pw_new (pw_sR K0 rfl k16 (by decide)))  hf
set_option maxHeartbeats 4000000 in
set_option maxRecDepth 100000 in
theorem wfX4_init_b28 {h0 h : pm_H} (K0 : pw_F WX4_init h0 h) {x0 : Nat} {x1 : Nat} {s0 : Nat} {s1 : Nat}  {r : pm_H} (hf : fX4_init_b28 h x0 x1 s0 s1 = some r) : pw_F WX4_init h0 r := by
  unfold fX4_init_b28 at hf
  obtain ⟨k11, hf⟩ := pm_if hf
  obtain ⟨k12, hf⟩ := pm_if hf
  have k12b := (congrFun (pkR rfl) x1).symm.trans k12
  obtain ⟨v13, e14, hf⟩ := pm_bd hf
  obtain ⟨u15, hf⟩ := pm_if hf
  exact wfX4_init_b39 (pw_new (pw_sR K0 rfl k11 (by decide)))  hf
set_option maxHeartbeats 4000000 in
set_option maxRecDepth 100000 in
theorem wfX4_init_b17 {h0 h : pm_H} (K0 : pw_F WX4_init h0 h) {x0 : Nat} {x1 : Nat} {s0 : Nat} {s1 : Nat}  {r : pm_H} (hf : fX4_init_b17 h x0 x1 s0 s1 = some r) : pw_F WX4_init h0 r := by
  unfold fX4_init_b17 at hf
  obtain ⟨k6, hf⟩ := pm_if hf
  obtain ⟨k7, hf⟩ := pm_if hf
  have k7b := (congrFun (pkR rfl) x1).symm.trans k7
  obtain ⟨v8, e9, hf⟩ := pm_bd hf
  obtain ⟨u10, hf⟩ := pm_if hf
  exact wfX4_init_b28 (pw_new (pw_sR K0 rfl k6 (by decide)))  hf
set_option maxHeartbeats 4000000 in
set_option maxRecDepth 100000 in
theorem wfX4_init_b0 {h0 h : pm_H} (K0 : pw_F WX4_init h0 h) {x0 : Nat} {x1 : Nat}  {r : pm_H} (hf : fX4_init_b0 h x0 x1 = some r) : pw_F WX4_init h0 r := by
  unfold fX4_init_b0 at hf
  obtain ⟨k1, hf⟩ := pm_if hf
  obtain ⟨k2, hf⟩ := pm_if hf
  have k2b := (congrFun (pkR rfl) x1).symm.trans k2
  obtain ⟨v3, e4, hf⟩ := pm_bd hf
  obtain ⟨u5, hf⟩ := pm_if hf
  exact wfX4_init_b17 (pw_new (pw_sR K0 rfl k1 (by decide)))  hf
set_option maxHeartbeats 4000000 in
set_option maxRecDepth 100000 in
theorem wfX4_init {h0 h : pm_H} (K0 : pw_F WX4_init h0 h) {a0 : Nat} {p1 : Nat}  {r : pm_H} (hf : fX4_init h a0 p1 = some r) : pw_F WX4_init h0 r := by
  unfold fX4_init at hf
  exact wfX4_init_b0 K0  hf
abbrev WX6_init : List Nat := [769, 770, 771, 772]
set_option maxHeartbeats 4000000 in
set_option maxRecDepth 100000 in
theorem wfX6_init_b35 {h0 h : pm_H} (K0 : pw_F WX6_init h0 h) {s0 : Nat} {s1 : Nat}  {r : pm_H} (hf : fX6_init_b35 h s0 s1 = some r) : pw_F WX6_init h0 r := by
  unfold fX6_init_b35 at hf
  obtain ⟨k4, hf⟩ := pm_if hf
  have hf := Option.some.inj hf
  subst hf
  exact (pw_sR K0 rfl k4 (by decide))
set_option maxHeartbeats 4000000 in
set_option maxRecDepth 100000 in
theorem wfX6_init_b23 {h0 h : pm_H} (K0 : pw_F WX6_init h0 h) {x0 : Nat} {s0 : Nat} {s1 : Nat}  {r : pm_H} (hf : fX6_init_b23 h x0 s0 s1 = some r) : pw_F WX6_init h0 r := by
  unfold fX6_init_b23 at hf
  obtain ⟨k3, hf⟩ := pm_if hf
  exact wfX6_init_b35 (pw_ma (pw_sR K0 rfl k3 (by decide)))  hf
set_option maxHeartbeats 4000000 in
set_option maxRecDepth 100000 in
theorem wfX6_init_b15 {h0 h : pm_H} (K0 : pw_F WX6_init h0 h) {x0 : Nat} {s0 : Nat} {s1 : Nat}  {r : pm_H} (hf : fX6_init_b15 h x0 s0 s1 = some r) : pw_F WX6_init h0 r := by
  unfold fX6_init_b15 at hf
  obtain ⟨k2, hf⟩ := pm_if hf
  exact wfX6_init_b23 (pw_new (pw_sR K0 rfl k2 (by decide)))  hf
set_option maxHeartbeats 4000000 in
set_option maxRecDepth 100000 in
theorem wfX6_init_b0 {h0 h : pm_H} (K0 : pw_F WX6_init h0 h) {x0 : Nat}  {r : pm_H} (hf : fX6_init_b0 h x0 = some r) : pw_F WX6_init h0 r := by
  unfold fX6_init_b0 at hf
  obtain ⟨k1, hf⟩ := pm_if hf
  exact wfX6_init_b15 (pw_new (pw_sI K0 rfl k1 (by decide)))  hf
set_option maxHeartbeats 4000000 in
set_option maxRecDepth 100000 in
theorem wfX6_init {h0 h : pm_H} (K0 : pw_F WX6_init h0 h) {a0 : Nat}  {r : pm_H} (hf : fX6_init h a0 = some r) : pw_F WX6_init h0 r := by
  unfold fX6_init at hf
  exact wfX6_init_b0 K0  hf
abbrev WX7_init : List Nat := [896, 897, 898, 899, 900, 901, 902, 903, 904, 905, 906, 907, 908, 909, 910, 4352]
set_option maxHeartbeats 4000000 in
set_option maxRecDepth 100000 in
theorem wlX7_init {h0 : pm_H} {r : pm_H} : ∀ n : Nat, (∀ (x0 : Nat) (x1 : Nat) (h : pm_H), pw_F WX7_init h0 h → pm_iter sX7_init n (.inl (x0, x1, h)) = some r → pw_F WX7_init h0 r) ∧ (∀ (x0 : Nat) (x1 : Nat) (s0 : Nat) (s1 : Nat) (h : pm_H), pw_F WX7_init h0 h → pm_iter sX7_init n (.inr (.inl (x0, x1, s0, s1, h))) = some r → pw_F WX7_init h0 r) ∧ (∀ (x0 : Nat) (x1 : Nat) (s0 : Nat) (s1 : Nat) (h : pm_H), pw_F WX7_init h0 h → pm_iter sX7_init n (.inr (.inr (.inl (x0, x1, s0, s1, h)))) = some r → pw_F WX7_init h0 r) ∧ (∀ (x0 : Nat) (x1 : Nat) (s0 : Nat) (s1 : Nat) (h : pm_H), pw_F WX7_init h0 h → pm_iter sX7_init n (.inr (.inr (.inr (.inl (x0, x1, s0, s1, h))))) = some r → pw_F WX7_init h0 r) ∧ (∀ (x0 : Nat) (x1 : Nat) (s0 : Nat) (s1 : Nat) (h : pm_H), pw_F WX7_init h0 h → pm_iter sX7_init n (.inr (.inr (.inr (.inr (.inl (x0, x1, s0, s1, h)))))) = some r → pw_F WX7_init h0 r) ∧ (∀ (x0 : Nat) (x1 : Nat) (s0 : Nat) (s1 : Nat) (h : pm_H), pw_F WX7_init h0 h → pm_iter sX7_init n (.inr (.inr (.inr (.inr (.inr (.inl (x0, x1, s0, s1, h))))))) = some r → pw_F WX7_init h0 r) ∧ (∀ (x0 : Nat) (x1 : Nat) (s0 : Nat) (s1 : Nat) (h : pm_H), pw_F WX7_init h0 h → pm_iter sX7_init n (.inr (.inr (.inr (.inr (.inr (.inr (.inl (x0, x1, s0, s1, h)))))))) = some r → pw_F WX7_init h0 r) ∧ (∀ (x0 : Nat) (x1 : Nat) (s0 : Nat) (s1 : Nat) (h : pm_H), pw_F WX7_init h0 h → pm_iter sX7_init n (.inr (.inr (.inr (.inr (.inr (.inr (.inr (.inl (x0, x1, s0, s1, h))))))))) = some r → pw_F WX7_init h0 r) ∧ (∀ (x0 : Nat) (x1 : Nat) (s0 : Nat) (s1 : Nat) (h : pm_H), pw_F WX7_init h0 h → pm_iter sX7_init n (.inr (.inr (.inr (.inr (.inr (.inr (.inr (.inr (.inl (x0, x1, s0, s1, h)))))))))) = some r → pw_F WX7_init h0 r) ∧ (∀ (x0 : Nat) (x1 : Nat) (s0 : Nat) (s1 : Nat) (h : pm_H), pw_F WX7_init h0 h → pm_iter sX7_init n (.inr (.inr (.inr (.inr (.inr (.inr (.inr (.inr (.inr (.inl (x0, x1, s0, s1, h))))))))))) = some r → pw_F WX7_init h0 r) ∧ (∀ (x0 : Nat) (x1 : Nat) (s0 : Nat) (s1 : Nat) (h : pm_H), pw_F WX7_init h0 h → pm_iter sX7_init n (.inr (.inr (.inr (.inr (.inr (.inr (.inr (.inr (.inr (.inr (.inl (x0, x1, s0, s1, h)))))))))))) = some r → pw_F WX7_init h0 r) ∧ (∀ (x0 : Nat) (x1 : Nat) (s0 : Nat) (s1 : Nat) (h : pm_H), pw_F WX7_init h0 h → pm_iter sX7_init n (.inr (.inr (.inr (.inr (.inr (.inr (.inr (.inr (.inr (.inr (.inr (.inl (x0, x1, s0, s1, h))))))))))))) = some r → pw_F WX7_init h0 r) ∧ (∀ (x0 : Nat) (x1 : Nat) (s0 : Nat) (s1 : Nat) (h : pm_H), pw_F WX7_init h0 h → pm_iter sX7_init n (.inr (.inr (.inr (.inr (.inr (.inr (.inr (.inr (.inr (.inr (.inr (.inr (.inl (x0, x1, s0, s1, h)))))))))))))) = some r → pw_F WX7_init h0 r) ∧ (∀ (x0 : Nat) (x2 : Int32) (h : pm_H), pw_F WX7_init h0 h → pm_iter sX7_init n (.inr (.inr (.inr (.inr (.inr (.inr (.inr (.inr (.inr (.inr (.inr (.inr (.inr (x0, x2, h)))))))))))))) = some r → pw_F WX7_init h0 r) := by
  intro n
  induction n with
  | zero => exact ⟨fun _ _ _ _ hf => (by cases hf), fun _ _ _ _ _ _ hf => (by cases hf), fun _ _ _ _ _ _ hf => (by cases hf), fun _ _ _ _ _ _ hf => (by cases hf), fun _ _ _ _ _ _ hf => (by cases hf), fun _ _ _ _ _ _ hf => (by cases hf), fun _ _ _ _ _ _ hf => (by cases hf), fun _ _ _ _ _ _ hf => (by cases hf), fun _ _ _ _ _ _ hf => (by cases hf), fun _ _ _ _ _ _ hf => (by cases hf), fun _ _ _ _ _ _ hf => (by cases hf), fun _ _ _ _ _ _ hf => (by cases hf), fun _ _ _ _ _ _ hf => (by cases hf), fun _ _ _ _ hf => (by cases hf)⟩
  | succ n ih =>
    refine ⟨fun x0 x1 h K0 hf => ?_, ?_⟩
    · obtain ⟨y, hf, hi⟩ := pm_iter_s hf
      have hf : tX7_init_0 x0 x1 h = some y := hf
      unfold tX7_init_0 at hf
      cases hf
      exact ih.2.1 x0 x1 (pm_sz h) x0 (pm_new h 34 13) (pw_new K0)  hi
    refine ⟨fun x0 x1 s0 s1 h K0 hf => ?_, ?_⟩
    · obtain ⟨y, hf, hi⟩ := pm_iter_s hf
      have hf : tX7_init_9 x0 x1 s0 s1 h = some y := hf
      unfold tX7_init_9 at hf
      obtain ⟨k1, hf⟩ := pm_if hf
      cases hf
      exact ih.2.2.1 x0 x1 (pm_sz (pm_setR h s1 1 (some s0))) x0 (pm_ma (pm_setR h s1 1 (some s0)) 4 2 0 0) (pw_ma (pw_sR K0 rfl k1 (by decide)))  hi
    refine ⟨fun x0 x1 s0 s1 h K0 hf => ?_, ?_⟩
    · obtain ⟨y, hf, hi⟩ := pm_iter_s hf
      have hf : tX7_init_19 x0 x1 s0 s1 h = some y := hf
      unfold tX7_init_19 at hf
      obtain ⟨k2, hf⟩ := pm_if hf
      cases hf
      exact ih.2.2.2.1 x0 x1 (pm_sz (pm_setR h s1 2 (some s0))) x0 (pm_new (pm_setR h s1 2 (some s0)) 35 0) (pw_new (pw_sR K0 rfl k2 (by decide)))  hi
    refine ⟨fun x0 x1 s0 s1 h K0 hf => ?_, ?_⟩
    · obtain ⟨y, hf, hi⟩ := pm_iter_s hf
      have hf : tX7_init_26 x0 x1 s0 s1 h = some y := hf
      unfold tX7_init_26 at hf
      obtain ⟨k3, hf⟩ := pm_if hf
      cases hf
      exact ih.2.2.2.2.1 x0 x1 (pm_sz (pm_setR h s1 3 (some s0))) x0 (pm_new (pm_setR h s1 3 (some s0)) 35 0) (pw_new (pw_sR K0 rfl k3 (by decide)))  hi
    refine ⟨fun x0 x1 s0 s1 h K0 hf => ?_, ?_⟩
    · obtain ⟨y, hf, hi⟩ := pm_iter_s hf
      have hf : tX7_init_33 x0 x1 s0 s1 h = some y := hf
      unfold tX7_init_33 at hf
      obtain ⟨k4, hf⟩ := pm_if hf
      cases hf
      exact ih.2.2.2.2.2.1 x0 x1 (pm_sz (pm_setR h s1 4 (some s0))) x0 (pm_new (pm_setR h s1 4 (some s0)) 35 0) (pw_new (pw_sR K0 rfl k4 (by decide)))  hi
    refine ⟨fun x0 x1 s0 s1 h K0 hf => ?_, ?_⟩
    · obtain ⟨y, hf, hi⟩ := pm_iter_s hf
      have hf : tX7_init_40 x0 x1 s0 s1 h = some y := hf
      unfold tX7_init_40 at hf
      obtain ⟨k5, hf⟩ := pm_if hf
      cases hf
      exact ih.2.2.2.2.2.2.1 x0 x1 (pm_sz (pm_setR h s1 5 (some s0))) x0 (pm_new (pm_setR h s1 5 (some s0)) 35 0) (pw_new (pw_sR K0 rfl k5 (by decide)))  hi
    refine ⟨fun x0 x1 s0 s1 h K0 hf => ?_, ?_⟩
    · obtain ⟨y, hf, hi⟩ := pm_iter_s hf
      have hf : tX7_init_47 x0 x1 s0 s1 h = some y := hf
      unfold tX7_init_47 at hf
      obtain ⟨k6, hf⟩ := pm_if hf
      cases hf
      exact ih.2.2.2.2.2.2.2.1 x0 x1 (pm_sz (pm_setR h s1 6 (some s0))) x0 (pm_new (pm_setR h s1 6 (some s0)) 35 0) (pw_new (pw_sR K0 rfl k6 (by decide)))  hi
    refine ⟨fun x0 x1 s0 s1 h K0 hf => ?_, ?_⟩
    · obtain ⟨y, hf, hi⟩ := pm_iter_s hf
      have hf : tX7_init_54 x0 x1 s0 s1 h = some y := hf
      unfold tX7_init_54 at hf
      obtain ⟨k7, hf⟩ := pm_if hf
      cases hf
      exact ih.2.2.2.2.2.2.2.2.1 x0 x1 (pm_sz (pm_setR h s1 7 (some s0))) x0 (pm_new (pm_setR h s1 7 (some s0)) 34 0) (pw_new (pw_sR K0 rfl k7 (by decide)))  hi
    refine ⟨fun x0 x1 s0 s1 h K0 hf => ?_, ?_⟩
    · obtain ⟨y, hf, hi⟩ := pm_iter_s hf
      have hf : tX7_init_61 x0 x1 s0 s1 h = some y := hf
      unfold tX7_init_61 at hf
      obtain ⟨k8, hf⟩ := pm_if hf
      cases hf
      exact ih.2.2.2.2.2.2.2.2.2.1 x0 x1 (pm_sz (pm_setR h s1 8 (some s0))) x0 (pm_new (pm_setR h s1 8 (some s0)) 34 0) (pw_new (pw_sR K0 rfl k8 (by decide)))  hi
    refine ⟨fun x0 x1 s0 s1 h K0 hf => ?_, ?_⟩
    · obtain ⟨y, hf, hi⟩ := pm_iter_s hf
      have hf : tX7_init_68 x0 x1 s0 s1 h = some y := hf
      unfold tX7_init_68 at hf
      obtain ⟨k9, hf⟩ := pm_if hf
      cases hf
      exact ih.2.2.2.2.2.2.2.2.2.2.1 x0 x1 (pm_sz (pm_setR h s1 9 (some s0))) x0 (pm_new (pm_setR h s1 9 (some s0)) 34 0) (pw_new (pw_sR K0 rfl k9 (by decide)))  hi
    refine ⟨fun x0 x1 s0 s1 h K0 hf => ?_, ?_⟩
    · obtain ⟨y, hf, hi⟩ := pm_iter_s hf
      have hf : tX7_init_75 x0 x1 s0 s1 h = some y := hf
      unfold tX7_init_75 at hf
      obtain ⟨k10, hf⟩ := pm_if hf
      cases hf
      exact ih.2.2.2.2.2.2.2.2.2.2.2.1 x0 x1 (pm_sz (pm_setR h s1 10 (some s0))) x0 (pm_new (pm_setR h s1 10 (some s0)) 34 0) (pw_new (pw_sR K0 rfl k10 (by decide)))  hi
    refine ⟨fun x0 x1 s0 s1 h K0 hf => ?_, ?_⟩
    · obtain ⟨y, hf, hi⟩ := pm_iter_s hf
      have hf : tX7_init_82 x0 x1 s0 s1 h = some y := hf
      unfold tX7_init_82 at hf
      obtain ⟨k11, hf⟩ := pm_if hf
      cases hf
      exact ih.2.2.2.2.2.2.2.2.2.2.2.2.1 x0 x1 (pm_sz (pm_setR h s1 11 (some s0))) x0 (pm_new (pm_setR h s1 11 (some s0)) 38 0) (pw_new (pw_sR K0 rfl k11 (by decide)))  hi
    refine ⟨fun x0 x1 s0 s1 h K0 hf => ?_, ?_⟩
    · obtain ⟨y, hf, hi⟩ := pm_iter_s hf
      have hf : tX7_init_90 x0 x1 s0 s1 h = some y := hf
      unfold tX7_init_90 at hf
      obtain ⟨k12, hf⟩ := pm_if hf
      obtain ⟨k13, hf⟩ := pm_if hf
      have k13b := (congrFun (pkR rfl) x0).symm.trans k13
      cases hf
      exact ih.2.2.2.2.2.2.2.2.2.2.2.2.2 x0 0 (pm_setR (pm_setL (pm_setL (pm_setR h s1 12 (some s0)) x0 13 (-1)) x0 14 (-1)) x0 0 (some x1)) (pw_sR (pw_sL (pw_sL (pw_sR K0 rfl k12 (by decide)) (pkR rfl) k13b (by decide)) (pkL (pkR rfl)) k13b (by decide)) (pkL (pkL (pkR rfl))) k13b (by decide))  hi
    refine fun x0 x2 h K0 hf => ?_
    obtain ⟨y, hf, hi⟩ := pm_iter_s hf
    have hf : tX7_init_114 x0 x2 h = some y := hf
    unfold tX7_init_114 at hf
    obtain ⟨k14, hf⟩ := pm_if hf
    obtain ⟨v15, e16, hf⟩ := pm_bd hf
    obtain ⟨k17, hf⟩ := pm_if hf
    by_cases c18 : (Int32.ofNat (pm_ln h v15)) ≤ x2
    · have hf := pm_it hf c18
      have hf := Option.some.inj hf
      subst hf
      have hi := Option.some.inj (show some _ = some r from hi)
      subst hi
      exact K0
    · have hf := pm_ie hf c18
      obtain ⟨u19, hf⟩ := pm_if hf
      obtain ⟨y20, e21, hf⟩ := pm_lt hf
      cases hf
      exact ih.2.2.2.2.2.2.2.2.2.2.2.2.2 x0 y20 (pm_setI h v15 x2.toNatClampNeg (-1)) (pw_aI K0 rfl k17 (by decide) (by decide))  hi
set_option maxHeartbeats 4000000 in
set_option maxRecDepth 100000 in
theorem wfX7_init {h0 h : pm_H} (K0 : pw_F WX7_init h0 h) {a0 : Nat} {p1 : Nat}  {r : pm_H} (hf : fX7_init h a0 p1 = some r) : pw_F WX7_init h0 r := by
  unfold fX7_init at hf
  obtain ⟨n, hn⟩ := pm_lim_iter hf
  exact (wlX7_init n).1 a0 p1 h K0  hn
abbrev WX9_makeRoom : List Nat := [898, 899, 900, 901, 902, 903, 904, 905, 906, 907, 1157, 1165, 1166, 4480]
set_option maxHeartbeats 4000000 in
set_option maxRecDepth 100000 in
theorem wfX9_makeRoom_b209 {h0 h : pm_H} (K0 : pw_F WX9_makeRoom h0 h) {s0 : Nat} {s1 : Nat}  {r : pm_H} (hf : fX9_makeRoom_b209 h s0 s1 = some r) : pw_F WX9_makeRoom h0 r := by
  unfold fX9_makeRoom_b209 at hf
  obtain ⟨k95, hf⟩ := pm_if hf
  have hf := Option.some.inj hf
  subst hf
  exact (pw_sR K0 rfl k95 (by decide))
set_option maxHeartbeats 4000000 in
set_option maxRecDepth 100000 in
theorem wfX9_makeRoom_b189 {h0 h : pm_H} (K0 : pw_F WX9_makeRoom h0 h) {x0 : Nat} {x1 : Int32} {x4 : Int32} {s0 : Nat} {s1 : Nat}  {r : pm_H} (hf : fX9_makeRoom_b189 h x0 x1 x4 s0 s1 = some r) : pw_F WX9_makeRoom h0 r := by
  unfold fX9_makeRoom_b189 at hf
  obtain ⟨k87, hf⟩ := pm_if hf
  by_cases c88 : x1 = 11
  · have hf := pm_it hf c88
    obtain ⟨k89, hf⟩ := pm_if hf
    have k89b := (congrFun (pkR rfl) x0).symm.trans k89
    obtain ⟨v90, e91, hf⟩ := pm_bd hf
    obtain ⟨y92, e93, hf⟩ := pm_lt hf
    obtain ⟨u94, hf⟩ := pm_if hf
    exact wfX9_makeRoom_b209 (pw_new (pw_sR K0 rfl k87 (by decide)))  hf
  · have hf := pm_ie hf c88
    have hf := Option.some.inj hf
    subst hf
    exact (pw_sR K0 rfl k87 (by decide))
set_option maxHeartbeats 4000000 in
set_option maxRecDepth 100000 in
theorem wfX9_makeRoom_b170 {h0 h : pm_H} (K0 : pw_F WX9_makeRoom h0 h) {x0 : Nat} {x1 : Int32} {x4 : Int32} {s0 : Nat} {s1 : Nat}  {r : pm_H} (hf : fX9_makeRoom_b170 h x0 x1 x4 s0 s1 = some r) : pw_F WX9_makeRoom h0 r := by
  unfold fX9_makeRoom_b170 at hf
  obtain ⟨k72, hf⟩ := pm_if hf
  by_cases c73 : x1 = 10
  · have hf := pm_it hf c73
    obtain ⟨k74, hf⟩ := pm_if hf
    have k74b := (congrFun (pkR rfl) x0).symm.trans k74
    obtain ⟨v75, e76, hf⟩ := pm_bd hf
    obtain ⟨y77, e78, hf⟩ := pm_lt hf
    obtain ⟨u79, hf⟩ := pm_if hf
    exact wfX9_makeRoom_b189 (pw_new (pw_sR K0 rfl k72 (by decide)))  hf
  · have hf := pm_ie hf c73
    by_cases c80 : x1 = 11
    · have hf := pm_it hf c80
      obtain ⟨k81, hf⟩ := pm_if hf
      have k81b := (congrFun (pkR rfl) x0).symm.trans k81
      obtain ⟨v82, e83, hf⟩ := pm_bd hf
      obtain ⟨y84, e85, hf⟩ := pm_lt hf
      obtain ⟨u86, hf⟩ := pm_if hf
      exact wfX9_makeRoom_b209 (pw_new (pw_sR K0 rfl k72 (by decide)))  hf
    · have hf := pm_ie hf c80
      have hf := Option.some.inj hf
      subst hf
      exact (pw_sR K0 rfl k72 (by decide))
set_option maxHeartbeats 4000000 in
set_option maxRecDepth 100000 in
theorem wfX9_makeRoom_b153 {h0 h : pm_H} (K0 : pw_F WX9_makeRoom h0 h) {x0 : Nat} {x1 : Int32} {x4 : Int32}  {r : pm_H} (hf : fX9_makeRoom_b153 h x0 x1 x4 = some r) : pw_F WX9_makeRoom h0 r := by
  unfold fX9_makeRoom_b153 at hf
  by_cases c51 : x1 = 9
  · have hf := pm_it hf c51
    obtain ⟨k52, hf⟩ := pm_if hf
    obtain ⟨v53, e54, hf⟩ := pm_bd hf
    obtain ⟨y55, e56, hf⟩ := pm_lt hf
    obtain ⟨u57, hf⟩ := pm_if hf
    exact wfX9_makeRoom_b170 (pw_new K0)  hf
  · have hf := pm_ie hf c51
    by_cases c58 : x1 = 10
    · have hf := pm_it hf c58
      obtain ⟨k59, hf⟩ := pm_if hf
      obtain ⟨v60, e61, hf⟩ := pm_bd hf
      obtain ⟨y62, e63, hf⟩ := pm_lt hf
      obtain ⟨u64, hf⟩ := pm_if hf
      exact wfX9_makeRoom_b189 (pw_new K0)  hf
    · have hf := pm_ie hf c58
      by_cases c65 : x1 = 11
      · have hf := pm_it hf c65
        obtain ⟨k66, hf⟩ := pm_if hf
        obtain ⟨v67, e68, hf⟩ := pm_bd hf
        obtain ⟨y69, e70, hf⟩ := pm_lt hf
        obtain ⟨u71, hf⟩ := pm_if hf
        exact wfX9_makeRoom_b209 (pw_new K0)  hf
      · have hf := pm_ie hf c65
        have hf := Option.some.inj hf
        subst hf
        exact K0
set_option maxHeartbeats 4000000 in
set_option maxRecDepth 100000 in
theorem wfX9_makeRoom_b150 {h0 h : pm_H} (K0 : pw_F WX9_makeRoom h0 h) {x0 : Nat} {x1 : Int32} {x4 : Int32} {s0 : Nat} {s1 : Nat}  {r : pm_H} (hf : fX9_makeRoom_b150 h x0 x1 x4 s0 s1 = some r) : pw_F WX9_makeRoom h0 r := by
  unfold fX9_makeRoom_b150 at hf
  obtain ⟨k50, hf⟩ := pm_if hf
  exact wfX9_makeRoom_b153 (pw_sR K0 rfl k50 (by decide))  hf
set_option maxHeartbeats 4000000 in
set_option maxRecDepth 100000 in
theorem wfX9_makeRoom_b134 {h0 h : pm_H} (K0 : pw_F WX9_makeRoom h0 h) {x0 : Nat} {x1 : Int32} {x4 : Int32}  {r : pm_H} (hf : fX9_makeRoom_b134 h x0 x1 x4 = some r) : pw_F WX9_makeRoom h0 r := by
  unfold fX9_makeRoom_b134 at hf
  by_cases c43 : x1 = 7
  · have hf := pm_it hf c43
    obtain ⟨k44, hf⟩ := pm_if hf
    obtain ⟨v45, e46, hf⟩ := pm_bd hf
    obtain ⟨y47, e48, hf⟩ := pm_lt hf
    obtain ⟨u49, hf⟩ := pm_if hf
    exact wfX9_makeRoom_b150 (pw_new K0)  hf
  · have hf := pm_ie hf c43
    exact wfX9_makeRoom_b153 K0  hf
set_option maxHeartbeats 4000000 in
set_option maxRecDepth 100000 in
theorem wfX9_makeRoom_b131 {h0 h : pm_H} (K0 : pw_F WX9_makeRoom h0 h) {x0 : Nat} {x1 : Int32} {x4 : Int32} {s0 : Nat} {s1 : Nat}  {r : pm_H} (hf : fX9_makeRoom_b131 h x0 x1 x4 s0 s1 = some r) : pw_F WX9_makeRoom h0 r := by
  unfold fX9_makeRoom_b131 at hf
  obtain ⟨k42, hf⟩ := pm_if hf
  exact wfX9_makeRoom_b134 (pw_sR K0 rfl k42 (by decide))  hf
set_option maxHeartbeats 4000000 in
set_option maxRecDepth 100000 in
theorem wfX9_makeRoom_b115 {h0 h : pm_H} (K0 : pw_F WX9_makeRoom h0 h) {x0 : Nat} {x1 : Int32} {x4 : Int32}  {r : pm_H} (hf : fX9_makeRoom_b115 h x0 x1 x4 = some r) : pw_F WX9_makeRoom h0 r := by
  unfold fX9_makeRoom_b115 at hf
  by_cases c35 : x1 = 2
  · have hf := pm_it hf c35
    obtain ⟨k36, hf⟩ := pm_if hf
    obtain ⟨v37, e38, hf⟩ := pm_bd hf
    obtain ⟨y39, e40, hf⟩ := pm_lt hf
    obtain ⟨u41, hf⟩ := pm_if hf
    exact wfX9_makeRoom_b131 (pw_new K0)  hf
  · have hf := pm_ie hf c35
    exact wfX9_makeRoom_b134 K0  hf
set_option maxHeartbeats 4000000 in
set_option maxRecDepth 100000 in
theorem wfX9_makeRoom_b112 {h0 h : pm_H} (K0 : pw_F WX9_makeRoom h0 h) {x0 : Nat} {x1 : Int32} {x4 : Int32} {s0 : Nat} {s1 : Nat}  {r : pm_H} (hf : fX9_makeRoom_b112 h x0 x1 x4 s0 s1 = some r) : pw_F WX9_makeRoom h0 r := by
  unfold fX9_makeRoom_b112 at hf
  obtain ⟨k34, hf⟩ := pm_if hf
  exact wfX9_makeRoom_b115 (pw_sR K0 rfl k34 (by decide))  hf
set_option maxHeartbeats 4000000 in
set_option maxRecDepth 100000 in
theorem wfX9_makeRoom_b96 {h0 h : pm_H} (K0 : pw_F WX9_makeRoom h0 h) {x0 : Nat} {x1 : Int32} {x4 : Int32}  {r : pm_H} (hf : fX9_makeRoom_b96 h x0 x1 x4 = some r) : pw_F WX9_makeRoom h0 r := by
  unfold fX9_makeRoom_b96 at hf
  by_cases c25 : x1 = 1
  · have hf := pm_it hf c25
    obtain ⟨k26, hf⟩ := pm_if hf
    obtain ⟨v27, e28, hf⟩ := pm_bd hf
    obtain ⟨u29, hf⟩ := pm_if hf
    exact wfX9_makeRoom_b112 (pw_ma K0)  hf
  · have hf := pm_ie hf c25
    exact wfX9_makeRoom_b115 K0  hf
set_option maxHeartbeats 4000000 in
set_option maxRecDepth 100000 in
theorem wfX9_makeRoom_b93 {h0 h : pm_H} (K0 : pw_F WX9_makeRoom h0 h) {x0 : Nat} {x1 : Int32} {x4 : Int32} {s0 : Nat} {s1 : Int32} {s2 : Nat}  {r : pm_H} (hf : fX9_makeRoom_b93 h x0 x1 x4 s0 s1 s2 = some r) : pw_F WX9_makeRoom h0 r := by
  unfold fX9_makeRoom_b93 at hf
  obtain ⟨k30, hf⟩ := pm_if hf
  obtain ⟨v31, e32, hf⟩ := pm_bd hf
  have K33 := pw_t (by decide) K0 (wfX7_setSpace (pw_rf _) e32)
  exact wfX9_makeRoom_b96 K33  hf
set_option maxHeartbeats 4000000 in
set_option maxRecDepth 100000 in
theorem wfX9_makeRoom_b17 {h0 h : pm_H} (K0 : pw_F WX9_makeRoom h0 h) {x0 : Nat} {x1 : Int32} {x2 : Int64}  {r : pm_H} (hf : fX9_makeRoom_b17 h x0 x1 x2 = some r) : pw_F WX9_makeRoom h0 r := by
  unfold fX9_makeRoom_b17 at hf
  obtain ⟨k6, hf⟩ := pm_if hf
  obtain ⟨y7, e8, hf⟩ := pm_lt hf
  obtain ⟨y9, e10, hf⟩ := pm_lt hf
  obtain ⟨y11, e12, hf⟩ := pm_lt hf
  by_cases c13 : x1 < 3
  · have hf := pm_it hf c13
    exact wfX9_makeRoom_b96 K0  hf
  · have hf := pm_ie hf c13
    by_cases c14 : 6 < x1
    · have hf := pm_it hf c14
      exact wfX9_makeRoom_b96 K0  hf
    · have hf := pm_ie hf c14
      obtain ⟨v15, e16, hf⟩ := pm_bd hf
      obtain ⟨k17, hf⟩ := pm_if hf
      obtain ⟨v18, e19, hf⟩ := pm_bd hf
      obtain ⟨v20, e21, hf⟩ := pm_bd hf
      obtain ⟨v22, e23, hf⟩ := pm_bd hf
      have K24 := pw_t (by decide) (pw_sI K0 rfl k6 (by decide)) (wfJ7_copyOf_c38d5 (pw_rf _) e23)
      exact wfX9_makeRoom_b93 K24  hf
set_option maxHeartbeats 4000000 in
set_option maxRecDepth 100000 in
theorem wfX9_makeRoom_b0 {h0 h : pm_H} (K0 : pw_F WX9_makeRoom h0 h) {x0 : Nat} {x1 : Int32} {x2 : Int64}  {r : pm_H} (hf : fX9_makeRoom_b0 h x0 x1 x2 = some r) : pw_F WX9_makeRoom h0 r := by
  unfold fX9_makeRoom_b0 at hf
  obtain ⟨k1, hf⟩ := pm_if hf
  by_cases c2 : x2 ≤ 64
  · have hf := pm_it hf c2
    exact wfX9_makeRoom_b17 (pw_sL K0 rfl k1 (by decide))  hf
  · have hf := pm_ie hf c2
    obtain ⟨v3, e4, hf⟩ := pm_bd hf
    have K5 := pw_t (by decide) (pw_sL K0 rfl k1 (by decide)) (wfX9_exceedLimit (pw_rf _) e4)
    exact wfX9_makeRoom_b17 K5  hf
set_option maxHeartbeats 4000000 in
set_option maxRecDepth 100000 in
theorem wfX9_makeRoom {h0 h : pm_H} (K0 : pw_F WX9_makeRoom h0 h) {a0 : Nat} {p1 : Int32} {p2 : Int64}  {r : pm_H} (hf : fX9_makeRoom h a0 p1 p2 = some r) : pw_F WX9_makeRoom h0 r := by
  unfold fX9_makeRoom at hf
  exact wfX9_makeRoom_b0 K0  hf
abbrev WX9_openSection : List Nat := [898, 899, 900, 901, 902, 903, 904, 905, 906, 907, 909, 910, 1153, 1154, 1155, 1156, 1157, 1162, 1163, 1164, 1165, 1166, 1167, 4352, 4480]
set_option maxHeartbeats 4000000 in
set_option maxRecDepth 100000 in
theorem wfX9_openSection_b212 {h0 h : pm_H} (K0 : pw_F WX9_openSection h0 h)   {r : pm_H} (hf : fX9_openSection_b212 h  = some r) : pw_F WX9_openSection h0 r := by
  unfold fX9_openSection_b212 at hf
  have hf := Option.some.inj hf
  subst hf
  exact K0
set_option maxHeartbeats 4000000 in
set_option maxRecDepth 100000 in
theorem wfX9_openSection_b93 {h0 h : pm_H} (K0 : pw_F WX9_openSection h0 h) {x0 : Nat} {x1 : Int32} {x2 : Int32} {x4 : Int64}  {r : pm_H} (hf : fX9_openSection_b93 h x0 x1 x2 x4 = some r) : pw_F WX9_openSection h0 r := by
  unfold fX9_openSection_b93 at hf
  obtain ⟨k36, hf⟩ := pm_if hf
  obtain ⟨y37, e38, hf⟩ := pm_lt hf
  obtain ⟨v39, e40, hf⟩ := pm_bd hf
  obtain ⟨k41, hf⟩ := pm_if hf
  have k41b := (congrFun (pkI (pkI (pkI rfl))) v39).symm.trans k41
  obtain ⟨v42, e43, hf⟩ := pm_bd hf
  obtain ⟨v44, e45, hf⟩ := pm_bd hf
  have K46 := pw_t (by decide) (pw_sI (pw_sI (pw_sI K0 rfl k36 (by decide)) (pkI rfl) k36 (by decide)) (pkI (pkI rfl)) k36 (by decide)) (wfX12_setItem (pw_rf _) e45)
  obtain ⟨k47, hf⟩ := pm_if hf
  by_cases c48 : x2 = 0
  · have hf := pm_it hf c48
    obtain ⟨v49, e50, hf⟩ := pm_bd hf
    have K51 := pw_t (by decide) (pw_sL (pw_sI K46 rfl k47 (by decide)) (pkI rfl) k47 (by decide)) (wfX9_name (pw_rf _) e50)
    obtain ⟨k52, hf⟩ := pm_if hf
    obtain ⟨v53, e54, hf⟩ := pm_bd hf
    have K55 := pw_t (by decide) K51 (wfX9_skip (pw_rf _) e54)
    have hf := Option.some.inj hf
    subst hf
    exact K55
  · have hf := pm_ie hf c48
    obtain ⟨v56, e57, hf⟩ := pm_bd hf
    have K58 := pw_t (by decide) (pw_sL (pw_sI K46 rfl k47 (by decide)) (pkI rfl) k47 (by decide)) (wfX9_number (pw_rf _) e57)
    by_cases c59 : x2 = 8
    · have hf := pm_it hf c59
      obtain ⟨k60, hf⟩ := pm_if hf
      obtain ⟨v61, e62, hf⟩ := pm_bd hf
      obtain ⟨k63, hf⟩ := pm_if hf
      exact wfX9_openSection_b212 (pw_sL K58 rfl k63 (by decide))  hf
    · have hf := pm_ie hf c59
      by_cases c64 : x2 = 12
      · have hf := pm_it hf c64
        obtain ⟨k65, hf⟩ := pm_if hf
        obtain ⟨v66, e67, hf⟩ := pm_bd hf
        obtain ⟨k68, hf⟩ := pm_if hf
        exact wfX9_openSection_b212 (pw_sL K58 rfl k68 (by decide))  hf
      · have hf := pm_ie hf c64
        obtain ⟨k69, hf⟩ := pm_if hf
        obtain ⟨v70, e71, hf⟩ := pm_bd hf
        have K72 := pw_t (by decide) K58 (wfX9_makeRoom (pw_rf _) e71)
        exact wfX9_openSection_b212 K72  hf
set_option maxHeartbeats 4000000 in
set_option maxRecDepth 100000 in
theorem wfX9_openSection_b73 {h0 h : pm_H} (K0 : pw_F WX9_openSection h0 h) {x0 : Nat} {x1 : Int32} {x2 : Int32} {x4 : Int64}  {r : pm_H} (hf : fX9_openSection_b73 h x0 x1 x2 x4 = some r) : pw_F WX9_openSection h0 r := by
  unfold fX9_openSection_b73 at hf
  obtain ⟨k31, hf⟩ := pm_if hf
  by_cases c32 : (pm_I h x0 3) = 0
  · have hf := pm_it hf c32
    by_cases c33 : x2 ≤ 0
    · have hf := pm_it hf c33
      exact wfX9_openSection_b93 K0  hf
    · have hf := pm_ie hf c33
      obtain ⟨v34, e35, hf⟩ := pm_lt hf
      exact wfX9_openSection_b93 (pw_sI K0 rfl k31 (by decide))  hf
  · have hf := pm_ie hf c32
    have hf := Option.some.inj hf
    subst hf
    exact K0
set_option maxHeartbeats 4000000 in
set_option maxRecDepth 100000 in
theorem wfX9_openSection_b38 {h0 h : pm_H} (K0 : pw_F WX9_openSection h0 h) {x0 : Nat} {x1 : Int32} {x2 : Int32}  {r : pm_H} (hf : fX9_openSection_b38 h x0 x1 x2 = some r) : pw_F WX9_openSection h0 r := by
  unfold fX9_openSection_b38 at hf
  obtain ⟨k20, hf⟩ := pm_if hf
  obtain ⟨y21, e22, hf⟩ := pm_lt hf
  obtain ⟨v23, e24, hf⟩ := pm_bd hf
  have K25 := pw_t (by decide) K0 (wfX9_number (pw_rf _) e24)
  obtain ⟨k26, hf⟩ := pm_if hf
  by_cases c27 : v23.1 ≤ (((pm_I v23.2 x0 2) - (pm_I v23.2 x0 1)).toInt64)
  · have hf := pm_it hf c27
    exact wfX9_openSection_b73 K25  hf
  · have hf := pm_ie hf c27
    obtain ⟨v28, e29, hf⟩ := pm_bd hf
    have K30 := pw_t (by decide) K25 (wfX9_fail (pw_rf _) e29)
    exact wfX9_openSection_b73 K30  hf
set_option maxHeartbeats 4000000 in
set_option maxRecDepth 100000 in
theorem wfX9_openSection_b0 {h0 h : pm_H} (K0 : pw_F WX9_openSection h0 h) {x0 : Nat}  {r : pm_H} (hf : fX9_openSection_b0 h x0 = some r) : pw_F WX9_openSection h0 r := by
  unfold fX9_openSection_b0 at hf
  obtain ⟨k1, hf⟩ := pm_if hf
  obtain ⟨y2, e3, hf⟩ := pm_lt hf
  obtain ⟨v4, e5, hf⟩ := pm_bd hf
  have K6 := pw_t (by decide) K0 (wfX9_next (pw_rf _) e5)
  by_cases c7 : 12 < v4.1
  · have hf := pm_it hf c7
    obtain ⟨k8, hf⟩ := pm_if hf
    obtain ⟨v9, e10, hf⟩ := pm_bd hf
    have K11 := pw_t (by decide) K6 (wfX9_fail (pw_rf _) e10)
    exact wfX9_openSection_b38 K11  hf
  · have hf := pm_ie hf c7
    by_cases c12 : v4.1 ≤ 0
    · have hf := pm_it hf c12
      exact wfX9_openSection_b38 K6  hf
    · have hf := pm_ie hf c12
      obtain ⟨v13, e14, hf⟩ := pm_lt hf
      obtain ⟨k15, hf⟩ := pm_if hf
      by_cases c16 : (pm_I v4.2 x0 12) < v13
      · have hf := pm_it hf c16
        exact wfX9_openSection_b38 K6  hf
      · have hf := pm_ie hf c16
        obtain ⟨v17, e18, hf⟩ := pm_bd hf
        have K19 := pw_t (by decide) K6 (wfX9_fail (pw_rf _) e18)
        exact wfX9_openSection_b38 K19  hf
set_option maxHeartbeats 4000000 in
set_option maxRecDepth 100000 in
theorem wfX9_openSection {h0 h : pm_H} (K0 : pw_F WX9_openSection h0 h) {a0 : Nat}  {r : pm_H} (hf : fX9_openSection h a0 = some r) : pw_F WX9_openSection h0 r := by
  unfold fX9_openSection at hf
  exact wfX9_openSection_b0 K0  hf
abbrev WX10_create : List Nat := [0, 1, 5, 7, 8, 512, 513, 514, 515, 516, 517, 518, 519, 768, 769, 1152, 1153, 1154, 1155, 1156, 1157, 1158, 1159, 1160, 1161, 1168, 1281, 1283, 1289, 1297, 1408, 1409, 4096, 4352, 4480, 4608, 4736, 4864, 5120]
set_option maxHeartbeats 4000000 in
set_option maxRecDepth 100000 in
theorem wlX10_create {h0 : pm_H} {r : (Nat × pm_H)} : ∀ n : Nat, (∀ (x0 : Nat) (x1 : Nat) (x2 : Nat) (x3 : Int32) (h : pm_H), pw_F WX10_create h0 h → pm_iter sX10_create n (.inl (x0, x1, x2, x3, h)) = some r → pw_F WX10_create h0 r.2) ∧ (∀ (x0 : Nat) (x1 : Nat) (x2 : Nat) (x3 : Int32) (s0 : Nat) (h : pm_H), pw_F WX10_create h0 h → pm_iter sX10_create n (.inr (.inl (x0, x1, x2, x3, s0, h))) = some r → pw_F WX10_create h0 r.2) ∧ (∀ (x0 : Nat) (x1 : Nat) (x2 : Nat) (x3 : Int32) (s0 : Nat) (h : pm_H), pw_F WX10_create h0 h → pm_iter sX10_create n (.inr (.inr (.inl (x0, x1, x2, x3, s0, h)))) = some r → pw_F WX10_create h0 r.2) ∧ (∀ (x0 : Nat) (x1 : Nat) (x2 : Nat) (x3 : Int32) (x4 : Nat) (s0 : Nat) (h : pm_H), pw_F WX10_create h0 h → pm_iter sX10_create n (.inr (.inr (.inr (.inl (x0, x1, x2, x3, x4, s0, h))))) = some r → pw_F WX10_create h0 r.2) ∧ (∀ (x0 : Nat) (x1 : Nat) (x2 : Nat) (x3 : Int32) (x4 : Nat) (x5 : Nat) (x6 : Int32) (h : pm_H), pw_F WX10_create h0 h → pm_iter sX10_create n (.inr (.inr (.inr (.inr (.inl (x0, x1, x2, x3, x4, x5, x6, h)))))) = some r → pw_F WX10_create h0 r.2) ∧ (∀ (x0 : Nat) (x1 : Nat) (x4 : Nat) (x5 : Nat) (x6 : Int32) (h : pm_H), pw_F WX10_create h0 h → pm_iter sX10_create n (.inr (.inr (.inr (.inr (.inr (.inl (x0, x1, x4, x5, x6, h))))))) = some r → pw_F WX10_create h0 r.2) ∧ (∀ (x0 : Nat) (x1 : Nat) (x2 : Nat) (x3 : Int32) (x4 : Nat) (x5 : Nat) (x6 : Int32) (x7 : Int32) (x8 : Int32) (x9 : Int32) (s0 : Nat) (s1 : Nat) (s2 : Nat) (h : pm_H), pw_F WX10_create h0 h → pm_iter sX10_create n (.inr (.inr (.inr (.inr (.inr (.inr (.inl (x0, x1, x2, x3, x4, x5, x6, x7, x8, x9, s0, s1, s2, h)))))))) = some r → pw_F WX10_create h0 r.2) ∧ (∀ (x0 : Nat) (x1 : Nat) (x4 : Nat) (x5 : Nat) (x6 : Int32) (h : pm_H), pw_F WX10_create h0 h → pm_iter sX10_create n (.inr (.inr (.inr (.inr (.inr (.inr (.inr (.inl (x0, x1, x4, x5, x6, h))))))))) = some r → pw_F WX10_create h0 r.2) ∧ (∀ (x0 : Nat) (x1 : Nat) (x2 : Nat) (x3 : Int32) (x4 : Nat) (x5 : Nat) (x6 : Int32) (x7 : Int32) (x9 : Int32) (s0 : Nat) (s1 : Nat) (s2 : Nat) (s3 : Nat) (s4 : Nat) (h : pm_H), pw_F WX10_create h0 h → pm_iter sX10_create n (.inr (.inr (.inr (.inr (.inr (.inr (.inr (.inr (.inl (x0, x1, x2, x3, x4, x5, x6, x7, x9, s0, s1, s2, s3, s4, h)))))))))) = some r → pw_F WX10_create h0 r.2) ∧ (∀ (x0 : Nat) (x1 : Nat) (x4 : Nat) (x5 : Nat) (x6 : Int32) (h : pm_H), pw_F WX10_create h0 h → pm_iter sX10_create n (.inr (.inr (.inr (.inr (.inr (.inr (.inr (.inr (.inr (.inl (x0, x1, x4, x5, x6, h))))))))))) = some r → pw_F WX10_create h0 r.2) ∧ (∀ (x0 : Nat) (x1 : Nat) (x4 : Nat) (x5 : Nat) (x6 : Int32) (s0 : Int32) (s1 : Int32) (s2 : Nat) (h : pm_H), pw_F WX10_create h0 h → pm_iter sX10_create n (.inr (.inr (.inr (.inr (.inr (.inr (.inr (.inr (.inr (.inr (.inl (x0, x1, x4, x5, x6, s0, s1, s2, h)))))))))))) = some r → pw_F WX10_create h0 r.2) ∧ (∀ (x0 : Nat) (x1 : Nat) (x2 : Nat) (x3 : Int32) (x4 : Nat) (x5 : Nat) (x6 : Int32) (x7 : Int32) (x9 : Int32) (s0 : Nat) (s1 : Nat) (s2 : Nat) (h : pm_H), pw_F WX10_create h0 h → pm_iter sX10_create n (.inr (.inr (.inr (.inr (.inr (.inr (.inr (.inr (.inr (.inr (.inr (.inl (x0, x1, x2, x3, x4, x5, x6, x7, x9, s0, s1, s2, h))))))))))))) = some r → pw_F WX10_create h0 r.2) ∧ (∀ (x0 : Nat) (x1 : Nat) (x4 : Nat) (x6 : Int32) (h : pm_H), pw_F WX10_create h0 h → pm_iter sX10_create n (.inr (.inr (.inr (.inr (.inr (.inr (.inr (.inr (.inr (.inr (.inr (.inr (.inl (x0, x1, x4, x6, h)))))))))))))) = some r → pw_F WX10_create h0 r.2) ∧ (∀ (x0 : Nat) (x1 : Nat) (x4 : Nat) (x5 : Nat) (x6 : Int32) (s0 : Int32) (s1 : Int32) (s2 : Nat) (h : pm_H), pw_F WX10_create h0 h → pm_iter sX10_create n (.inr (.inr (.inr (.inr (.inr (.inr (.inr (.inr (.inr (.inr (.inr (.inr (.inr (.inl (x0, x1, x4, x5, x6, s0, s1, s2, h))))))))))))))) = some r → pw_F WX10_create h0 r.2) ∧ (∀ (x0 : Nat) (x1 : Nat) (x4 : Nat) (x6 : Int32) (h : pm_H), pw_F WX10_create h0 h → pm_iter sX10_create n (.inr (.inr (.inr (.inr (.inr (.inr (.inr (.inr (.inr (.inr (.inr (.inr (.inr (.inr (.inl (x0, x1, x4, x6, h)))))))))))))))) = some r → pw_F WX10_create h0 r.2) ∧ (∀ (x1 : Nat) (x4 : Nat) (x6 : Int32) (h : pm_H), pw_F WX10_create h0 h → pm_iter sX10_create n (.inr (.inr (.inr (.inr (.inr (.inr (.inr (.inr (.inr (.inr (.inr (.inr (.inr (.inr (.inr (.inl (x1, x4, x6, h))))))))))))))))) = some r → pw_F WX10_create h0 r.2) ∧ (∀ (x0 : Nat) (x1 : Nat) (x4 : Nat) (x6 : Int32) (h : pm_H), pw_F WX10_create h0 h → pm_iter sX10_create n (.inr (.inr (.inr (.inr (.inr (.inr (.inr (.inr (.inr (.inr (.inr (.inr (.inr (.inr (.inr (.inr (x0, x1, x4, x6, h))))))))))))))))) = some r → pw_F WX10_create h0 r.2) := by
  intro n
  induction n with
  | zero => exact ⟨fun _ _ _ _ _ _ hf => (by cases hf), fun _ _ _ _ _ _ _ hf => (by cases hf), fun _ _ _ _ _ _ _ hf => (by cases hf), fun _ _ _ _ _ _ _ _ hf => (by cases hf), fun _ _ _ _ _ _ _ _ _ hf => (by cases hf), fun _ _ _ _ _ _ _ hf => (by cases hf), fun _ _ _ _ _ _ _ _ _ _ _ _ _ _ _ hf => (by cases hf), fun _ _ _ _ _ _ _ hf => (by cases hf), fun _ _ _ _ _ _ _ _ _ _ _ _ _ _ _ _ hf => (by cases hf), fun _ _ _ _ _ _ _ hf => (by cases hf), fun _ _ _ _ _ _ _ _ _ _ hf => (by cases hf), fun _ _ _ _ _ _ _ _ _ _ _ _ _ _ hf => (by cases hf), fun _ _ _ _ _ _ hf => (by cases hf), fun _ _ _ _ _ _ _ _ _ _ hf => (by cases hf), fun _ _ _ _ _ _ hf => (by cases hf), fun _ _ _ _ _ hf => (by cases hf), fun _ _ _ _ _ _ hf => (by cases hf)⟩
  | succ n ih =>
    refine ⟨fun x0 x1 x2 x3 h K0 hf => ?_, ?_⟩
    · obtain ⟨y, hf, hi⟩ := pm_iter_s hf
      have hf : tX10_create_0 x0 x1 x2 x3 h = some y := hf
      unfold tX10_create_0 at hf
      cases hf
      exact ih.2.1 x0 x1 x2 x3 (pm_sz h) (pm_new h 4 0) (pw_new K0)  hi
    refine ⟨fun x0 x1 x2 x3 s0 h K0 hf => ?_, ?_⟩
    · obtain ⟨y, hf, hi⟩ := pm_iter_s hf
      have hf : tX10_create_3 x0 x1 x2 x3 s0 h = some y := hf
      unfold tX10_create_3 at hf
      obtain ⟨v1, e2, hf⟩ := pm_bd hf
      have K3 := pw_t (by decide) K0 (wfX4_init (pw_rf _) e2)
      cases hf
      exact ih.2.2.1 x0 x1 x2 x3 s0 v1 K3  hi
    refine ⟨fun x0 x1 x2 x3 s0 h K0 hf => ?_, ?_⟩
    · obtain ⟨y, hf, hi⟩ := pm_iter_s hf
      have hf : tX10_create_8 x0 x1 x2 x3 s0 h = some y := hf
      unfold tX10_create_8 at hf
      obtain ⟨k4, hf⟩ := pm_if hf
      obtain ⟨v5, e6, hf⟩ := pm_bd hf
      obtain ⟨k7, hf⟩ := pm_if hf
      by_cases c8 : (Int32.ofNat (pm_ln h v5)) ≤ (pm_I h x0 3)
      · have hf := pm_it hf c8
        obtain ⟨y9, e10, hf⟩ := pm_lt hf
        cases hf
        exact ih.2.2.2.1 x0 x1 x2 x3 s0 (pm_sz (pm_setI h x0 3 y9)) (pm_new (pm_setI h x0 3 y9) 34 4) (pw_new (pw_sI K0 rfl k4 (by decide)))  hi
      · have hf := pm_ie hf c8
        obtain ⟨k11, hf⟩ := pm_if hf
        obtain ⟨u12, hf⟩ := pm_if hf
        obtain ⟨y13, e14, hf⟩ := pm_lt hf
        cases hf
        exact ih.2.2.2.1 x0 x1 x2 x3 s0 (pm_sz (pm_setI (pm_setR h v5 ((pm_I h x0 3).toNatClampNeg) (some s0)) x0 3 y13)) (pm_new (pm_setI (pm_setR h v5 ((pm_I h x0 3).toNatClampNeg) (some s0)) x0 3 y13) 34 4) (pw_new (pw_sI (pw_aR K0 rfl k7 (by decide) (by decide)) (pkR rfl) k4 (by decide)))  hi
    refine ⟨fun x0 x1 x2 x3 x4 s0 h K0 hf => ?_, ?_⟩
    · obtain ⟨y, hf, hi⟩ := pm_iter_s hf
      have hf : tX10_create_46 x0 x1 x2 x3 x4 s0 h = some y := hf
      unfold tX10_create_46 at hf
      cases hf
      exact ih.2.2.2.2.1 x0 x1 x2 x3 x4 s0 0 h K0  hi
    refine ⟨fun x0 x1 x2 x3 x4 x5 x6 h K0 hf => ?_, ?_⟩
    · obtain ⟨y, hf, hi⟩ := pm_iter_s hf
      have hf : tX10_create_51 x0 x1 x2 x3 x4 x5 x6 h = some y := hf
      unfold tX10_create_51 at hf
      by_cases c15 : x3 ≤ x6
      · have hf := pm_it hf c15
        cases hf
        exact ih.2.2.2.2.2.1 x0 x1 x4 x5 0 h K0  hi
      · have hf := pm_ie hf c15
        obtain ⟨k16, hf⟩ := pm_if hf
        obtain ⟨v17, e18, hf⟩ := pm_bd hf
        obtain ⟨v19, e20, hf⟩ := pm_bd hf
        obtain ⟨v21, e22, hf⟩ := pm_bd hf
        obtain ⟨v23, e24, hf⟩ := pm_bd hf
        obtain ⟨v25, e26, hf⟩ := pm_bd hf
        by_cases c27 : v25 = (-1)
        · have hf := pm_it hf c27
          obtain ⟨k28, hf⟩ := pm_if hf
          obtain ⟨v29, e30, hf⟩ := pm_bd hf
          cases hf
          exact ih.2.2.2.2.2.2.1 x0 x1 x2 x3 x4 x5 x6 v19.toInt32 v21.toInt32 v23 (pm_sz h) v29 x0 (pm_new h 0 0) (pw_new K0)  hi
        · have hf := pm_ie hf c27
          obtain ⟨k31, hf⟩ := pm_if hf
          obtain ⟨v32, e33, hf⟩ := pm_bd hf
          obtain ⟨v34, e35, hf⟩ := pm_bd hf
          obtain ⟨v36, e37, hf⟩ := pm_bd hf
          have K38 := pw_t (by decide) K0 (wfX12_setItem (pw_rf _) e37)
          obtain ⟨v39, e40, hf⟩ := pm_bd hf
          obtain ⟨v41, e42, hf⟩ := pm_bd hf
          have K43 := pw_t (by decide) K38 (wfX12_setItem (pw_rf _) e42)
          obtain ⟨y44, e45, hf⟩ := pm_lt hf
          cases hf
          exact ih.2.2.2.2.1 x0 x1 x2 x3 x4 x5 y44 v41 K43  hi
    refine ⟨fun x0 x1 x4 x5 x6 h K0 hf => ?_, ?_⟩
    · obtain ⟨y, hf, hi⟩ := pm_iter_s hf
      have hf : tX10_create_185 x0 x1 x4 x5 x6 h = some y := hf
      unfold tX10_create_185 at hf
      obtain ⟨k46, hf⟩ := pm_if hf
      obtain ⟨v47, e48, hf⟩ := pm_bd hf
      obtain ⟨k49, hf⟩ := pm_if hf
      by_cases c50 : (Int32.ofNat (pm_ln h v47)) ≤ x6
      · have hf := pm_it hf c50
        obtain ⟨k51, hf⟩ := pm_if hf
        obtain ⟨u52, hf⟩ := pm_if hf
        obtain ⟨y53, e54, hf⟩ := pm_lt hf
        cases hf
        exact ih.2.2.2.2.2.2.2.1 x0 x1 x4 x5 y53 h K0  hi
      · have hf := pm_ie hf c50
        obtain ⟨k55, hf⟩ := pm_if hf
        obtain ⟨v56, e57, hf⟩ := pm_bd hf
        obtain ⟨k58, hf⟩ := pm_if hf
        obtain ⟨u59, hf⟩ := pm_if hf
        obtain ⟨u60, hf⟩ := pm_if hf
        obtain ⟨v61, e62, hf⟩ := pm_bd hf
        obtain ⟨k63, hf⟩ := pm_if hf
        obtain ⟨v64, e65, hf⟩ := pm_bd hf
        have K66 := pw_t (by decide) K0 (wfX10_addFunction (pw_rf _) e65)
        obtain ⟨v67, e68, hf⟩ := pm_bd hf
        have K69 := pw_t (by decide) K66 (wfX12_setItem (pw_rf _) e68)
        obtain ⟨y70, e71, hf⟩ := pm_lt hf
        cases hf
        exact ih.2.2.2.2.2.1 x0 x1 x4 x5 y70 v67 K69  hi
    refine ⟨fun x0 x1 x2 x3 x4 x5 x6 x7 x8 x9 s0 s1 s2 h K0 hf => ?_, ?_⟩
    · obtain ⟨y, hf, hi⟩ := pm_iter_s hf
      have hf : tX10_create_123 x0 x1 x2 x3 x4 x5 x6 x7 x8 x9 s0 s1 s2 h = some y := hf
      unfold tX10_create_123 at hf
      obtain ⟨k72, hf⟩ := pm_if hf
      obtain ⟨v73, e74, hf⟩ := pm_bd hf
      have K75 := pw_t (by decide) K0 (wfX7_shape (pw_rf _) e74)
      cases hf
      exact ih.2.2.2.2.2.2.2.2.1 x0 x1 x2 x3 x4 x5 x6 x7 x9 v73.1 s0 s0 s1 s2 v73.2 K75  hi
    refine ⟨fun x0 x1 x4 x5 x6 h K0 hf => ?_, ?_⟩
    · obtain ⟨y, hf, hi⟩ := pm_iter_s hf
      have hf : tX10_create_236 x0 x1 x4 x5 x6 h = some y := hf
      unfold tX10_create_236 at hf
      obtain ⟨k76, hf⟩ := pm_if hf
      obtain ⟨v77, e78, hf⟩ := pm_bd hf
      obtain ⟨k79, hf⟩ := pm_if hf
      by_cases c80 : (Int32.ofNat (pm_ln h v77)) ≤ x6
      · have hf := pm_it hf c80
        obtain ⟨k81, hf⟩ := pm_if hf
        obtain ⟨u82, hf⟩ := pm_if hf
        obtain ⟨y83, e84, hf⟩ := pm_lt hf
        cases hf
        exact ih.2.2.2.2.2.2.2.2.2.1 x0 x1 x4 x5 y83 h K0  hi
      · have hf := pm_ie hf c80
        obtain ⟨k85, hf⟩ := pm_if hf
        obtain ⟨v86, e87, hf⟩ := pm_bd hf
        obtain ⟨k88, hf⟩ := pm_if hf
        obtain ⟨v89, e90, hf⟩ := pm_bd hf
        obtain ⟨v91, e92, hf⟩ := pm_bd hf
        obtain ⟨v93, e94, hf⟩ := pm_bd hf
        obtain ⟨k95, hf⟩ := pm_if hf
        obtain ⟨v96, e97, hf⟩ := pm_bd hf
        have K98 := pw_t (by decide) K0 (wfX11_create (pw_rf _) e97)
        cases hf
        exact ih.2.2.2.2.2.2.2.2.2.2.1 x0 x1 x4 x5 x6 v96.1 x6 v77 v96.2 K98  hi
    refine ⟨fun x0 x1 x2 x3 x4 x5 x6 x7 x9 s0 s1 s2 s3 s4 h K0 hf => ?_, ?_⟩
    · obtain ⟨y, hf, hi⟩ := pm_iter_s hf
      have hf : tX10_create_130 x0 x1 x2 x3 x4 x5 x6 x7 x9 s0 s1 s2 s3 s4 h = some y := hf
      unfold tX10_create_130 at hf
      obtain ⟨v99, e100, hf⟩ := pm_bd hf
      have K101 := pw_t (by decide) K0 (wfX0_init (pw_rf _) e100)
      cases hf
      exact ih.2.2.2.2.2.2.2.2.2.2.2.1 x0 x1 x2 x3 x4 x5 x6 x7 x9 s2 s3 s4 v99 K101  hi
    refine ⟨fun x0 x1 x4 x5 x6 h K0 hf => ?_, ?_⟩
    · obtain ⟨y, hf, hi⟩ := pm_iter_s hf
      have hf : tX10_create_303 x0 x1 x4 x5 x6 h = some y := hf
      unfold tX10_create_303 at hf
      obtain ⟨k102, hf⟩ := pm_if hf
      obtain ⟨v103, e104, hf⟩ := pm_bd hf
      obtain ⟨k105, hf⟩ := pm_if hf
      by_cases c106 : (Int32.ofNat (pm_ln h v103)) ≤ x6
      · have hf := pm_it hf c106
        obtain ⟨k107, hf⟩ := pm_if hf
        obtain ⟨u108, hf⟩ := pm_if hf
        obtain ⟨y109, e110, hf⟩ := pm_lt hf
        cases hf
        exact ih.2.2.2.2.2.2.2.2.2.2.2.2.1 x0 x1 x4 y109 h K0  hi
      · have hf := pm_ie hf c106
        obtain ⟨k111, hf⟩ := pm_if hf
        obtain ⟨v112, e113, hf⟩ := pm_bd hf
        obtain ⟨k114, hf⟩ := pm_if hf
        obtain ⟨v115, e116, hf⟩ := pm_bd hf
        obtain ⟨v117, e118, hf⟩ := pm_bd hf
        obtain ⟨k119, hf⟩ := pm_if hf
        obtain ⟨v120, e121, hf⟩ := pm_bd hf
        have K122 := pw_t (by decide) K0 (wfX6_create (pw_rf _) e121)
        cases hf
        exact ih.2.2.2.2.2.2.2.2.2.2.2.2.2.1 x0 x1 x4 x5 x6 v120.1 x6 v103 v120.2 K122  hi
    refine ⟨fun x0 x1 x4 x5 x6 s0 s1 s2 h K0 hf => ?_, ?_⟩
    · obtain ⟨y, hf, hi⟩ := pm_iter_s hf
      have hf : tX10_create_290 x0 x1 x4 x5 x6 s0 s1 s2 h = some y := hf
      unfold tX10_create_290 at hf
      obtain ⟨k123, hf⟩ := pm_if hf
      obtain ⟨u124, hf⟩ := pm_if hf
      obtain ⟨y125, e126, hf⟩ := pm_lt hf
      cases hf
      exact ih.2.2.2.2.2.2.2.1 x0 x1 x4 x5 y125 (pm_setI h s2 s1.toNatClampNeg s0) (pw_aI K0 rfl k123 (by decide) (by decide))  hi
    refine ⟨fun x0 x1 x2 x3 x4 x5 x6 x7 x9 s0 s1 s2 h K0 hf => ?_, ?_⟩
    · obtain ⟨y, hf, hi⟩ := pm_iter_s hf
      have hf : tX10_create_134 x0 x1 x2 x3 x4 x5 x6 x7 x9 s0 s1 s2 h = some y := hf
      unfold tX10_create_134 at hf
      obtain ⟨k127, hf⟩ := pm_if hf
      obtain ⟨v128, e129, hf⟩ := pm_bd hf
      have K130 := pw_t (by decide) K0 (wfX10_addFunction (pw_rf _) e129)
      obtain ⟨k131, hf⟩ := pm_if hf
      obtain ⟨v132, e133, hf⟩ := pm_bd hf
      obtain ⟨v134, e135, hf⟩ := pm_bd hf
      obtain ⟨v136, e137, hf⟩ := pm_bd hf
      have K138 := pw_t (by decide) K130 (wfX12_setItem (pw_rf _) e137)
      obtain ⟨v139, e140, hf⟩ := pm_bd hf
      obtain ⟨v141, e142, hf⟩ := pm_bd hf
      have K143 := pw_t (by decide) K138 (wfX12_setItem (pw_rf _) e142)
      obtain ⟨y144, e145, hf⟩ := pm_lt hf
      cases hf
      exact ih.2.2.2.2.1 x0 x1 x2 x3 x4 x5 y144 v141 K143  hi
    refine ⟨fun x0 x1 x4 x6 h K0 hf => ?_, ?_⟩
    · obtain ⟨y, hf, hi⟩ := pm_iter_s hf
      have hf : tX10_create_357 x0 x1 x4 x6 h = some y := hf
      unfold tX10_create_357 at hf
      obtain ⟨k146, hf⟩ := pm_if hf
      obtain ⟨v147, e148, hf⟩ := pm_bd hf
      obtain ⟨k149, hf⟩ := pm_if hf
      by_cases c150 : (Int32.ofNat (pm_ln h v147)) ≤ x6
      · have hf := pm_it hf c150
        cases hf
        exact ih.2.2.2.2.2.2.2.2.2.2.2.2.2.2.1 x0 x1 x4 0 h K0  hi
      · have hf := pm_ie hf c150
        obtain ⟨k151, hf⟩ := pm_if hf
        obtain ⟨v152, e153, hf⟩ := pm_bd hf
        have K154 := pw_t (by decide) K0 (wfX10_addGlobal (pw_rf _) e153)
        obtain ⟨k155, hf⟩ := pm_if hf
        obtain ⟨u156, hf⟩ := pm_if hf
        obtain ⟨y157, e158, hf⟩ := pm_lt hf
        cases hf
        exact ih.2.2.2.2.2.2.2.2.2.2.2.2.1 x0 x1 x4 y157 (pm_setI v152.2 v147 x6.toNatClampNeg v152.1) (pw_aI K154 rfl k155 (by decide) (by decide))  hi
    refine ⟨fun x0 x1 x4 x5 x6 s0 s1 s2 h K0 hf => ?_, ?_⟩
    · obtain ⟨y, hf, hi⟩ := pm_iter_s hf
      have hf : tX10_create_344 x0 x1 x4 x5 x6 s0 s1 s2 h = some y := hf
      unfold tX10_create_344 at hf
      obtain ⟨k159, hf⟩ := pm_if hf
      obtain ⟨u160, hf⟩ := pm_if hf
      obtain ⟨y161, e162, hf⟩ := pm_lt hf
      cases hf
      exact ih.2.2.2.2.2.2.2.2.2.1 x0 x1 x4 x5 y161 (pm_setI h s2 s1.toNatClampNeg s0) (pw_aI K0 rfl k159 (by decide) (by decide))  hi
    refine ⟨fun x0 x1 x4 x6 h K0 hf => ?_, ?_⟩
    · obtain ⟨y, hf, hi⟩ := pm_iter_s hf
      have hf : tX10_create_393 x0 x1 x4 x6 h = some y := hf
      unfold tX10_create_393 at hf
      obtain ⟨k163, hf⟩ := pm_if hf
      obtain ⟨v164, e165, hf⟩ := pm_bd hf
      obtain ⟨k166, hf⟩ := pm_if hf
      by_cases c167 : (Int32.ofNat (pm_ln h v164)) ≤ x6
      · have hf := pm_it hf c167
        cases hf
        exact ih.2.2.2.2.2.2.2.2.2.2.2.2.2.2.2.1 x1 x4 0 h K0  hi
      · have hf := pm_ie hf c167
        obtain ⟨k168, hf⟩ := pm_if hf
        obtain ⟨v169, e170, hf⟩ := pm_bd hf
        have K171 := pw_t (by decide) K0 (wfX10_fillElement (pw_rf _) e170)
        cases hf
        exact ih.2.2.2.2.2.2.2.2.2.2.2.2.2.2.2.2 x0 x1 x4 x6 v169 K171  hi
    refine ⟨fun x1 x4 x6 h K0 hf => ?_, ?_⟩
    · obtain ⟨y, hf, hi⟩ := pm_iter_s hf
      have hf : tX10_create_421 x1 x4 x6 h = some y := hf
      unfold tX10_create_421 at hf
      obtain ⟨k172, hf⟩ := pm_if hf
      obtain ⟨v173, e174, hf⟩ := pm_bd hf
      obtain ⟨k175, hf⟩ := pm_if hf
      by_cases c176 : (Int32.ofNat (pm_ln h v173)) ≤ x6
      · have hf := pm_it hf c176
        have hf := Option.some.inj hf
        subst hf
        have hi := Option.some.inj (show some _ = some r from hi)
        subst hi
        exact K0
      · have hf := pm_ie hf c176
        obtain ⟨k177, hf⟩ := pm_if hf
        obtain ⟨v178, e179, hf⟩ := pm_bd hf
        obtain ⟨v180, e181, hf⟩ := pm_bd hf
        obtain ⟨u182, hf⟩ := pm_if hf
        obtain ⟨y183, e184, hf⟩ := pm_lt hf
        cases hf
        exact ih.2.2.2.2.2.2.2.2.2.2.2.2.2.2.2.1 x1 x4 y183 (pm_setI h v173 x6.toNatClampNeg v180) (pw_aI K0 rfl k175 (by decide) (by decide))  hi
    refine fun x0 x1 x4 x6 h K0 hf => ?_
    obtain ⟨y, hf, hi⟩ := pm_iter_s hf
    have hf : tX10_create_412 x0 x1 x4 x6 h = some y := hf
    unfold tX10_create_412 at hf
    obtain ⟨y185, e186, hf⟩ := pm_lt hf
    cases hf
    exact ih.2.2.2.2.2.2.2.2.2.2.2.2.2.2.1 x0 x1 x4 y185 h K0  hi
set_option maxHeartbeats 4000000 in
set_option maxRecDepth 100000 in
theorem wfX10_create {h0 h : pm_H} (K0 : pw_F WX10_create h0 h) {a0 : Nat} {p1 : Nat} {p2 : Nat} {p3 : Int32}  {r : (Nat × pm_H)} (hf : fX10_create h a0 p1 p2 p3 = some r) : pw_F WX10_create h0 r.2 := by
  unfold fX10_create at hf
  obtain ⟨n, hn⟩ := pm_lim_iter hf
  exact (wlX10_create n).1 a0 p1 p2 p3 h K0  hn
abbrev WX11_init : List Nat := [1409, 1410, 1411, 1412, 1413]
set_option maxHeartbeats 4000000 in
set_option maxRecDepth 100000 in
theorem wfX11_init_b43 {h0 h : pm_H} (K0 : pw_F WX11_init h0 h) {s0 : Nat} {s1 : Nat}  {r : pm_H} (hf : fX11_init_b43 h s0 s1 = some r) : pw_F WX11_init h0 r := by
  unfold fX11_init_b43 at hf
  obtain ⟨k5, hf⟩ := pm_if hf
  have hf := Option.some.inj hf
  subst hf
  exact (pw_sR K0 rfl k5 (by decide))
set_option maxHeartbeats 4000000 in
set_option maxRecDepth 100000 in
theorem wfX11_init_b32 {h0 h : pm_H} (K0 : pw_F WX11_init h0 h) {x0 : Nat} {s0 : Nat} {s1 : Nat}  {r : pm_H} (hf : fX11_init_b32 h x0 s0 s1 = some r) : pw_F WX11_init h0 r := by
  unfold fX11_init_b32 at hf
  obtain ⟨k4, hf⟩ := pm_if hf
  exact wfX11_init_b43 (pw_ma (pw_sR K0 rfl k4 (by decide)))  hf
set_option maxHeartbeats 4000000 in
set_option maxRecDepth 100000 in
theorem wfX11_init_b24 {h0 h : pm_H} (K0 : pw_F WX11_init h0 h) {x0 : Nat} {s0 : Nat} {s1 : Nat}  {r : pm_H} (hf : fX11_init_b24 h x0 s0 s1 = some r) : pw_F WX11_init h0 r := by
  unfold fX11_init_b24 at hf
  obtain ⟨k3, hf⟩ := pm_if hf
  exact wfX11_init_b32 (pw_new (pw_sR K0 rfl k3 (by decide)))  hf
set_option maxHeartbeats 4000000 in
set_option maxRecDepth 100000 in
theorem wfX11_init_b16 {h0 h : pm_H} (K0 : pw_F WX11_init h0 h) {x0 : Nat} {s0 : Nat} {s1 : Nat}  {r : pm_H} (hf : fX11_init_b16 h x0 s0 s1 = some r) : pw_F WX11_init h0 r := by
  unfold fX11_init_b16 at hf
  obtain ⟨k2, hf⟩ := pm_if hf
  exact wfX11_init_b24 (pw_new (pw_sR K0 rfl k2 (by decide)))  hf
set_option maxHeartbeats 4000000 in
set_option maxRecDepth 100000 in
theorem wfX11_init_b0 {h0 h : pm_H} (K0 : pw_F WX11_init h0 h) {x0 : Nat}  {r : pm_H} (hf : fX11_init_b0 h x0 = some r) : pw_F WX11_init h0 r := by
  unfold fX11_init_b0 at hf
  obtain ⟨k1, hf⟩ := pm_if hf
  exact wfX11_init_b16 (pw_new (pw_sI K0 rfl k1 (by decide)))  hf
set_option maxHeartbeats 4000000 in
set_option maxRecDepth 100000 in
theorem wfX11_init {h0 h : pm_H} (K0 : pw_F WX11_init h0 h) {a0 : Nat}  {r : pm_H} (hf : fX11_init h a0 = some r) : pw_F WX11_init h0 r := by
  unfold fX11_init at hf
  exact wfX11_init_b0 K0  hf
abbrev WX9_advance : List Nat := [898, 899, 900, 901, 902, 903, 904, 905, 906, 907, 909, 910, 1153, 1154, 1155, 1156, 1157, 1158, 1159, 1160, 1161, 1162, 1163, 1164, 1165, 1166, 1167, 1168, 4096, 4352, 4480, 4608]
set_option maxHeartbeats 4000000 in
set_option maxRecDepth 100000 in
theorem wfX9_advance_b162 {h0 h : pm_H} (K0 : pw_F WX9_advance h0 h)   {r : pm_H} (hf : fX9_advance_b162 h  = some r) : pw_F WX9_advance h0 r := by
  unfold fX9_advance_b162 at hf
  have hf := Option.some.inj hf
  subst hf
  exact K0
set_option maxHeartbeats 4000000 in
set_option maxRecDepth 100000 in
theorem wfX9_advance_b138 {h0 h : pm_H} (K0 : pw_F WX9_advance h0 h) {x0 : Nat}  {r : pm_H} (hf : fX9_advance_b138 h x0 = some r) : pw_F WX9_advance h0 r := by
  unfold fX9_advance_b138 at hf
  obtain ⟨k44, hf⟩ := pm_if hf
  by_cases c45 : (pm_I h x0 10) < 0
  · have hf := pm_it hf c45
    exact wfX9_advance_b162 K0  hf
  · have hf := pm_ie hf c45
    by_cases c46 : ((pm_I h x0 15).toInt64) < (pm_L h x0 14)
    · have hf := pm_it hf c46
      exact wfX9_advance_b162 K0  hf
    · have hf := pm_ie hf c46
      obtain ⟨v47, e48, hf⟩ := pm_bd hf
      have K49 := pw_t (by decide) K0 (wfX9_closeSection (pw_rf _) e48)
      exact wfX9_advance_b162 K49  hf
set_option maxHeartbeats 4000000 in
set_option maxRecDepth 100000 in
theorem wfX9_advance_b128 {h0 h : pm_H} (K0 : pw_F WX9_advance h0 h) {x0 : Nat}  {r : pm_H} (hf : fX9_advance_b128 h x0 = some r) : pw_F WX9_advance h0 r := by
  unfold fX9_advance_b128 at hf
  obtain ⟨k37, hf⟩ := pm_if hf
  obtain ⟨y38, e39, hf⟩ := pm_lt hf
  exact wfX9_advance_b138 (pw_sI K0 rfl k37 (by decide))  hf
set_option maxHeartbeats 4000000 in
set_option maxRecDepth 100000 in
theorem wfX9_advance_b118 {h0 h : pm_H} (K0 : pw_F WX9_advance h0 h) {x0 : Nat}  {r : pm_H} (hf : fX9_advance_b118 h x0 = some r) : pw_F WX9_advance h0 r := by
  unfold fX9_advance_b118 at hf
  obtain ⟨k40, hf⟩ := pm_if hf
  obtain ⟨v41, e42, hf⟩ := pm_bd hf
  have K43 := pw_t (by decide) K0 (wfX9_own (pw_rf _) e42)
  exact wfX9_advance_b128 K43  hf
set_option maxHeartbeats 4000000 in
set_option maxRecDepth 100000 in
theorem wfX9_advance_b80 {h0 h : pm_H} (K0 : pw_F WX9_advance h0 h) {x0 : Nat}  {r : pm_H} (hf : fX9_advance_b80 h x0 = some r) : pw_F WX9_advance h0 r := by
  unfold fX9_advance_b80 at hf
  exact wfX9_advance_b128 K0  hf
set_option maxHeartbeats 4000000 in
set_option maxRecDepth 100000 in
theorem wfX9_advance_b11 {h0 h : pm_H} (K0 : pw_F WX9_advance h0 h) {x0 : Nat}  {r : pm_H} (hf : fX9_advance_b11 h x0 = some r) : pw_F WX9_advance h0 r := by
  unfold fX9_advance_b11 at hf
  exact wfX9_advance_b138 K0  hf
set_option maxHeartbeats 4000000 in
set_option maxRecDepth 100000 in
theorem wfX9_advance_b0 {h0 h : pm_H} (K0 : pw_F WX9_advance h0 h) {x0 : Nat}  {r : pm_H} (hf : fX9_advance_b0 h x0 = some r) : pw_F WX9_advance h0 r := by
  unfold fX9_advance_b0 at hf
  obtain ⟨k1, hf⟩ := pm_if hf
  by_cases c2 : 0 ≤ (pm_I h x0 10)
  · have hf := pm_it hf c2
    obtain ⟨y3, e4, hf⟩ := pm_lt hf
    by_cases c5 : y3 = 1
    · have hf := pm_it hf c5
      obtain ⟨v6, e7, hf⟩ := pm_bd hf
      have K8 := pw_t (by decide) K0 (wfX9_functionType (pw_rf _) e7)
      exact wfX9_advance_b80 K8  hf
    have hf := pm_ie hf c5
    by_cases c9 : y3 = 2
    · have hf := pm_it hf c9
      obtain ⟨v10, e11, hf⟩ := pm_bd hf
      have K12 := pw_t (by decide) K0 (wfX9_importOne (pw_rf _) e11)
      exact wfX9_advance_b128 K12  hf
    have hf := pm_ie hf c9
    by_cases c13 : y3 = 3
    · have hf := pm_it hf c13
      exact wfX9_advance_b118 K0  hf
    have hf := pm_ie hf c13
    by_cases c14 : y3 = 4
    · have hf := pm_it hf c14
      exact wfX9_advance_b118 K0  hf
    have hf := pm_ie hf c14
    by_cases c15 : y3 = 5
    · have hf := pm_it hf c15
      exact wfX9_advance_b118 K0  hf
    have hf := pm_ie hf c15
    by_cases c16 : y3 = 6
    · have hf := pm_it hf c16
      exact wfX9_advance_b118 K0  hf
    have hf := pm_ie hf c16
    by_cases c17 : y3 = 7
    · have hf := pm_it hf c17
      obtain ⟨v18, e19, hf⟩ := pm_bd hf
      have K20 := pw_t (by decide) K0 (wfX9_exportOne (pw_rf _) e19)
      exact wfX9_advance_b128 K20  hf
    have hf := pm_ie hf c17
    by_cases c21 : y3 = 8
    · have hf := pm_it hf c21
      exact wfX9_advance_b118 K0  hf
    have hf := pm_ie hf c21
    by_cases c22 : y3 = 9
    · have hf := pm_it hf c22
      obtain ⟨v23, e24, hf⟩ := pm_bd hf
      have K25 := pw_t (by decide) K0 (wfX9_element (pw_rf _) e24)
      exact wfX9_advance_b128 K25  hf
    have hf := pm_ie hf c22
    by_cases c26 : y3 = 10
    · have hf := pm_it hf c26
      obtain ⟨v27, e28, hf⟩ := pm_bd hf
      have K29 := pw_t (by decide) K0 (wfX9_body (pw_rf _) e28)
      exact wfX9_advance_b128 K29  hf
    have hf := pm_ie hf c26
    by_cases c30 : y3 = 11
    · have hf := pm_it hf c30
      obtain ⟨v31, e32, hf⟩ := pm_bd hf
      have K33 := pw_t (by decide) K0 (wfX9_dataOne (pw_rf _) e32)
      exact wfX9_advance_b128 K33  hf
    have hf := pm_ie hf c30
    exact wfX9_advance_b118 K0  hf
  · have hf := pm_ie hf c2
    obtain ⟨v34, e35, hf⟩ := pm_bd hf
    have K36 := pw_t (by decide) K0 (wfX9_openSection (pw_rf _) e35)
    exact wfX9_advance_b11 K36  hf
set_option maxHeartbeats 4000000 in
set_option maxRecDepth 100000 in
theorem wfX9_advance {h0 h : pm_H} (K0 : pw_F WX9_advance h0 h) {a0 : Nat}  {r : pm_H} (hf : fX9_advance h a0 = some r) : pw_F WX9_advance h0 r := by
  unfold fX9_advance at hf
  exact wfX9_advance_b0 K0  hf
abbrev WX10_init : List Nat := [0, 1, 5, 7, 8, 512, 513, 514, 515, 516, 517, 518, 519, 769, 770, 771, 772, 1284, 1285, 1286, 1287, 1288, 1290, 1291, 1292, 1293, 1294, 1295, 1296, 1297, 1298, 1299, 1409, 1410, 1411, 1412, 1413, 4864, 5120]
set_option maxHeartbeats 4000000 in
set_option maxRecDepth 100000 in
theorem wlX10_init {h0 : pm_H} {r : pm_H} : ∀ n : Nat, (∀ (x0 : Nat) (x1 : Nat) (x2 : Nat) (h : pm_H), pw_F WX10_init h0 h → pm_iter sX10_init n (.inl (x0, x1, x2, h)) = some r → pw_F WX10_init h0 r) ∧ (∀ (x0 : Nat) (x1 : Nat) (x2 : Nat) (s0 : Nat) (s1 : Nat) (h : pm_H), pw_F WX10_init h0 h → pm_iter sX10_init n (.inr (.inl (x0, x1, x2, s0, s1, h))) = some r → pw_F WX10_init h0 r) ∧ (∀ (x0 : Nat) (x1 : Nat) (x2 : Nat) (s0 : Nat) (s1 : Nat) (h : pm_H), pw_F WX10_init h0 h → pm_iter sX10_init n (.inr (.inr (.inl (x0, x1, x2, s0, s1, h)))) = some r → pw_F WX10_init h0 r) ∧ (∀ (x0 : Nat) (x1 : Nat) (x2 : Nat) (s0 : Nat) (s1 : Nat) (h : pm_H), pw_F WX10_init h0 h → pm_iter sX10_init n (.inr (.inr (.inr (.inl (x0, x1, x2, s0, s1, h))))) = some r → pw_F WX10_init h0 r) ∧ (∀ (x0 : Nat) (x1 : Nat) (x2 : Nat) (s0 : Nat) (s1 : Nat) (h : pm_H), pw_F WX10_init h0 h → pm_iter sX10_init n (.inr (.inr (.inr (.inr (.inl (x0, x1, x2, s0, s1, h)))))) = some r → pw_F WX10_init h0 r) ∧ (∀ (x0 : Nat) (x1 : Nat) (x2 : Nat) (s0 : Nat) (s1 : Nat) (h : pm_H), pw_F WX10_init h0 h → pm_iter sX10_init n (.inr (.inr (.inr (.inr (.inr (.inl (x0, x1, x2, s0, s1, h))))))) = some r → pw_F WX10_init h0 r) ∧ (∀ (x0 : Nat) (x1 : Nat) (x2 : Nat) (s0 : Nat) (s1 : Nat) (h : pm_H), pw_F WX10_init h0 h → pm_iter sX10_init n (.inr (.inr (.inr (.inr (.inr (.inr (.inl (x0, x1, x2, s0, s1, h)))))))) = some r → pw_F WX10_init h0 r) ∧ (∀ (x0 : Nat) (x1 : Nat) (x2 : Nat) (s0 : Nat) (s1 : Nat) (h : pm_H), pw_F WX10_init h0 h → pm_iter sX10_init n (.inr (.inr (.inr (.inr (.inr (.inr (.inr (.inl (x0, x1, x2, s0, s1, h))))))))) = some r → pw_F WX10_init h0 r) ∧ (∀ (x0 : Nat) (x1 : Nat) (x2 : Nat) (s0 : Nat) (s1 : Nat) (h : pm_H), pw_F WX10_init h0 h → pm_iter sX10_init n (.inr (.inr (.inr (.inr (.inr (.inr (.inr (.inr (.inl (x0, x1, x2, s0, s1, h)))))))))) = some r → pw_F WX10_init h0 r) ∧ (∀ (x0 : Nat) (x1 : Nat) (x2 : Nat) (s0 : Nat) (s1 : Nat) (h : pm_H), pw_F WX10_init h0 h → pm_iter sX10_init n (.inr (.inr (.inr (.inr (.inr (.inr (.inr (.inr (.inr (.inl (x0, x1, x2, s0, s1, h))))))))))) = some r → pw_F WX10_init h0 r) ∧ (∀ (x0 : Nat) (x1 : Nat) (x2 : Nat) (s0 : Nat) (s1 : Nat) (h : pm_H), pw_F WX10_init h0 h → pm_iter sX10_init n (.inr (.inr (.inr (.inr (.inr (.inr (.inr (.inr (.inr (.inr (.inl (x0, x1, x2, s0, s1, h)))))))))))) = some r → pw_F WX10_init h0 r) ∧ (∀ (x0 : Nat) (x1 : Nat) (x2 : Nat) (s0 : Nat) (s1 : Nat) (h : pm_H), pw_F WX10_init h0 h → pm_iter sX10_init n (.inr (.inr (.inr (.inr (.inr (.inr (.inr (.inr (.inr (.inr (.inr (.inl (x0, x1, x2, s0, s1, h))))))))))))) = some r → pw_F WX10_init h0 r) ∧ (∀ (x0 : Nat) (x1 : Nat) (x2 : Nat) (s0 : Nat) (s1 : Nat) (h : pm_H), pw_F WX10_init h0 h → pm_iter sX10_init n (.inr (.inr (.inr (.inr (.inr (.inr (.inr (.inr (.inr (.inr (.inr (.inr (.inl (x0, x1, x2, s0, s1, h)))))))))))))) = some r → pw_F WX10_init h0 r) ∧ (∀ (x0 : Nat) (x1 : Nat) (x2 : Nat) (s0 : Nat) (s1 : Nat) (h : pm_H), pw_F WX10_init h0 h → pm_iter sX10_init n (.inr (.inr (.inr (.inr (.inr (.inr (.inr (.inr (.inr (.inr (.inr (.inr (.inr (.inl (x0, x1, x2, s0, s1, h))))))))))))))) = some r → pw_F WX10_init h0 r) ∧ (∀ (x0 : Nat) (x1 : Nat) (x2 : Nat) (s0 : Nat) (s1 : Nat) (h : pm_H), pw_F WX10_init h0 h → pm_iter sX10_init n (.inr (.inr (.inr (.inr (.inr (.inr (.inr (.inr (.inr (.inr (.inr (.inr (.inr (.inr (.inl (x0, x1, x2, s0, s1, h)))))))))))))))) = some r → pw_F WX10_init h0 r) ∧ (∀ (x0 : Nat) (x2 : Nat) (s0 : Nat) (s1 : Nat) (h : pm_H), pw_F WX10_init h0 h → pm_iter sX10_init n (.inr (.inr (.inr (.inr (.inr (.inr (.inr (.inr (.inr (.inr (.inr (.inr (.inr (.inr (.inr (.inl (x0, x2, s0, s1, h))))))))))))))))) = some r → pw_F WX10_init h0 r) ∧ (∀ (x0 : Nat) (s0 : Nat) (s1 : Nat) (h : pm_H), pw_F WX10_init h0 h → pm_iter sX10_init n (.inr (.inr (.inr (.inr (.inr (.inr (.inr (.inr (.inr (.inr (.inr (.inr (.inr (.inr (.inr (.inr (.inl (x0, s0, s1, h)))))))))))))))))) = some r → pw_F WX10_init h0 r) ∧ (∀ (x0 : Nat) (s0 : Nat) (h : pm_H), pw_F WX10_init h0 h → pm_iter sX10_init n (.inr (.inr (.inr (.inr (.inr (.inr (.inr (.inr (.inr (.inr (.inr (.inr (.inr (.inr (.inr (.inr (.inr (.inl (x0, s0, h))))))))))))))))))) = some r → pw_F WX10_init h0 r) ∧ (∀ (x0 : Nat) (s0 : Nat) (s1 : Nat) (s2 : Nat) (h : pm_H), pw_F WX10_init h0 h → pm_iter sX10_init n (.inr (.inr (.inr (.inr (.inr (.inr (.inr (.inr (.inr (.inr (.inr (.inr (.inr (.inr (.inr (.inr (.inr (.inr (.inl (x0, s0, s1, s2, h)))))))))))))))))))) = some r → pw_F WX10_init h0 r) ∧ (∀ (x0 : Nat) (s0 : Nat) (h : pm_H), pw_F WX10_init h0 h → pm_iter sX10_init n (.inr (.inr (.inr (.inr (.inr (.inr (.inr (.inr (.inr (.inr (.inr (.inr (.inr (.inr (.inr (.inr (.inr (.inr (.inr (.inl (x0, s0, h))))))))))))))))))))) = some r → pw_F WX10_init h0 r) ∧ (∀ (x0 : Nat) (x3 : Nat) (x4 : Int32) (h : pm_H), pw_F WX10_init h0 h → pm_iter sX10_init n (.inr (.inr (.inr (.inr (.inr (.inr (.inr (.inr (.inr (.inr (.inr (.inr (.inr (.inr (.inr (.inr (.inr (.inr (.inr (.inr (.inl (x0, x3, x4, h)))))))))))))))))))))) = some r → pw_F WX10_init h0 r) ∧ (∀ (x0 : Nat) (x4 : Int32) (h : pm_H), pw_F WX10_init h0 h → pm_iter sX10_init n (.inr (.inr (.inr (.inr (.inr (.inr (.inr (.inr (.inr (.inr (.inr (.inr (.inr (.inr (.inr (.inr (.inr (.inr (.inr (.inr (.inr (.inl (x0, x4, h))))))))))))))))))))))) = some r → pw_F WX10_init h0 r) ∧ (∀ (x0 : Nat) (x4 : Int32) (h : pm_H), pw_F WX10_init h0 h → pm_iter sX10_init n (.inr (.inr (.inr (.inr (.inr (.inr (.inr (.inr (.inr (.inr (.inr (.inr (.inr (.inr (.inr (.inr (.inr (.inr (.inr (.inr (.inr (.inr (x0, x4, h))))))))))))))))))))))) = some r → pw_F WX10_init h0 r) := by
  intro n
  induction n with
  | zero => exact ⟨fun _ _ _ _ _ hf => (by cases hf), fun _ _ _ _ _ _ _ hf => (by cases hf), fun _ _ _ _ _ _ _ hf => (by cases hf), fun _ _ _ _ _ _ _ hf => (by cases hf), fun _ _ _ _ _ _ _ hf => (by cases hf), fun _ _ _ _ _ _ _ hf => (by cases hf), fun _ _ _ _ _ _ _ hf => (by cases hf), fun _ _ _ _ _ _ _ hf => (by cases hf), fun _ _ _ _ _ _ _ hf => (by cases hf), fun _ _ _ _ _ _ _ hf => (by cases hf), fun _ _ _ _ _ _ _ hf => (by cases hf), fun _ _ _ _ _ _ _ hf => (by cases hf), fun _ _ _ _ _ _ _ hf => (by cases hf), fun _ _ _ _ _ _ _ hf => (by cases hf), fun _ _ _ _ _ _ _ hf => (by cases hf), fun _ _ _ _ _ _ hf => (by cases hf), fun _ _ _ _ _ hf => (by cases hf), fun _ _ _ _ hf => (by cases hf), fun _ _ _ _ _ _ hf => (by cases hf), fun _ _ _ _ hf => (by cases hf), fun _ _ _ _ _ hf => (by cases hf), fun _ _ _ _ hf => (by cases hf), fun _ _ _ _ hf => (by cases hf)⟩
  | succ n ih =>
    refine ⟨fun x0 x1 x2 h K0 hf => ?_, ?_⟩
    · obtain ⟨y, hf, hi⟩ := pm_iter_s hf
      have hf : tX10_init_0 x0 x1 x2 h = some y := hf
      unfold tX10_init_0 at hf
      cases hf
      exact ih.2.1 x0 x1 x2 (pm_sz h) x0 (pm_new h 11 0) (pw_new K0)  hi
    refine ⟨fun x0 x1 x2 s0 s1 h K0 hf => ?_, ?_⟩
    · obtain ⟨y, hf, hi⟩ := pm_iter_s hf
      have hf : tX10_init_8 x0 x1 x2 s0 s1 h = some y := hf
      unfold tX10_init_8 at hf
      obtain ⟨v1, e2, hf⟩ := pm_bd hf
      have K3 := pw_t (by decide) K0 (wfX11_init (pw_rf _) e2)
      cases hf
      exact ih.2.2.1 x0 x1 x2 s0 s1 v1 K3  hi
    refine ⟨fun x0 x1 x2 s0 s1 h K0 hf => ?_, ?_⟩
    · obtain ⟨y, hf, hi⟩ := pm_iter_s hf
      have hf : tX10_init_12 x0 x1 x2 s0 s1 h = some y := hf
      unfold tX10_init_12 at hf
      obtain ⟨k4, hf⟩ := pm_if hf
      cases hf
      exact ih.2.2.2.1 x0 x1 x2 (pm_sz (pm_setR h s1 4 (some s0))) x0 (pm_new (pm_setR h s1 4 (some s0)) 6 0) (pw_new (pw_sR K0 rfl k4 (by decide)))  hi
    refine ⟨fun x0 x1 x2 s0 s1 h K0 hf => ?_, ?_⟩
    · obtain ⟨y, hf, hi⟩ := pm_iter_s hf
      have hf : tX10_init_19 x0 x1 x2 s0 s1 h = some y := hf
      unfold tX10_init_19 at hf
      obtain ⟨v5, e6, hf⟩ := pm_bd hf
      have K7 := pw_t (by decide) K0 (wfX6_init (pw_rf _) e6)
      cases hf
      exact ih.2.2.2.2.1 x0 x1 x2 s0 s1 v5 K7  hi
    refine ⟨fun x0 x1 x2 s0 s1 h K0 hf => ?_, ?_⟩
    · obtain ⟨y, hf, hi⟩ := pm_iter_s hf
      have hf : tX10_init_23 x0 x1 x2 s0 s1 h = some y := hf
      unfold tX10_init_23 at hf
      obtain ⟨k8, hf⟩ := pm_if hf
      cases hf
      exact ih.2.2.2.2.2.1 x0 x1 x2 (pm_sz (pm_setR h s1 5 (some s0))) x0 (pm_new (pm_setR h s1 5 (some s0)) 34 256) (pw_new (pw_sR K0 rfl k8 (by decide)))  hi
    refine ⟨fun x0 x1 x2 s0 s1 h K0 hf => ?_, ?_⟩
    · obtain ⟨y, hf, hi⟩ := pm_iter_s hf
      have hf : tX10_init_32 x0 x1 x2 s0 s1 h = some y := hf
      unfold tX10_init_32 at hf
      obtain ⟨k9, hf⟩ := pm_if hf
      cases hf
      exact ih.2.2.2.2.2.2.1 x0 x1 x2 (pm_sz (pm_setR h s1 6 (some s0))) x0 (pm_new (pm_setR h s1 6 (some s0)) 35 256) (pw_new (pw_sR K0 rfl k9 (by decide)))  hi
    refine ⟨fun x0 x1 x2 s0 s1 h K0 hf => ?_, ?_⟩
    · obtain ⟨y, hf, hi⟩ := pm_iter_s hf
      have hf : tX10_init_41 x0 x1 x2 s0 s1 h = some y := hf
      unfold tX10_init_41 at hf
      obtain ⟨k10, hf⟩ := pm_if hf
      cases hf
      exact ih.2.2.2.2.2.2.2.1 x0 x1 x2 (pm_sz (pm_setR h s1 7 (some s0))) x0 (pm_new (pm_setR h s1 7 (some s0)) 32 256) (pw_new (pw_sR K0 rfl k10 (by decide)))  hi
    refine ⟨fun x0 x1 x2 s0 s1 h K0 hf => ?_, ?_⟩
    · obtain ⟨y, hf, hi⟩ := pm_iter_s hf
      have hf : tX10_init_50 x0 x1 x2 s0 s1 h = some y := hf
      unfold tX10_init_50 at hf
      obtain ⟨k11, hf⟩ := pm_if hf
      cases hf
      exact ih.2.2.2.2.2.2.2.2.1 x0 x1 x2 (pm_sz (pm_setR h s1 8 (some s0))) x0 (pm_new (pm_setR h s1 8 (some s0)) 38 512) (pw_new (pw_sR K0 rfl k11 (by decide)))  hi
    refine ⟨fun x0 x1 x2 s0 s1 h K0 hf => ?_, ?_⟩
    · obtain ⟨y, hf, hi⟩ := pm_iter_s hf
      have hf : tX10_init_60 x0 x1 x2 s0 s1 h = some y := hf
      unfold tX10_init_60 at hf
      obtain ⟨k12, hf⟩ := pm_if hf
      cases hf
      exact ih.2.2.2.2.2.2.2.2.2.1 x0 x1 x2 (pm_sz (pm_setR h s1 10 (some s0))) x0 (pm_new (pm_setR h s1 10 (some s0)) 40 512) (pw_new (pw_sR K0 rfl k12 (by decide)))  hi
    refine ⟨fun x0 x1 x2 s0 s1 h K0 hf => ?_, ?_⟩
    · obtain ⟨y, hf, hi⟩ := pm_iter_s hf
      have hf : tX10_init_70 x0 x1 x2 s0 s1 h = some y := hf
      unfold tX10_init_70 at hf
      obtain ⟨k13, hf⟩ := pm_if hf
      cases hf
      exact ih.2.2.2.2.2.2.2.2.2.2.1 x0 x1 x2 (pm_sz (pm_setR h s1 11 (some s0))) x0 (pm_new (pm_setR h s1 11 (some s0)) 34 512) (pw_new (pw_sR K0 rfl k13 (by decide)))  hi
    refine ⟨fun x0 x1 x2 s0 s1 h K0 hf => ?_, ?_⟩
    · obtain ⟨y, hf, hi⟩ := pm_iter_s hf
      have hf : tX10_init_79 x0 x1 x2 s0 s1 h = some y := hf
      unfold tX10_init_79 at hf
      obtain ⟨k14, hf⟩ := pm_if hf
      cases hf
      exact ih.2.2.2.2.2.2.2.2.2.2.2.1 x0 x1 x2 (pm_sz (pm_setR h s1 12 (some s0))) x0 (pm_new (pm_setR h s1 12 (some s0)) 34 512) (pw_new (pw_sR K0 rfl k14 (by decide)))  hi
    refine ⟨fun x0 x1 x2 s0 s1 h K0 hf => ?_, ?_⟩
    · obtain ⟨y, hf, hi⟩ := pm_iter_s hf
      have hf : tX10_init_88 x0 x1 x2 s0 s1 h = some y := hf
      unfold tX10_init_88 at hf
      obtain ⟨k15, hf⟩ := pm_if hf
      cases hf
      exact ih.2.2.2.2.2.2.2.2.2.2.2.2.1 x0 x1 x2 (pm_sz (pm_setR h s1 13 (some s0))) x0 (pm_new (pm_setR h s1 13 (some s0)) 32 512) (pw_new (pw_sR K0 rfl k15 (by decide)))  hi
    refine ⟨fun x0 x1 x2 s0 s1 h K0 hf => ?_, ?_⟩
    · obtain ⟨y, hf, hi⟩ := pm_iter_s hf
      have hf : tX10_init_97 x0 x1 x2 s0 s1 h = some y := hf
      unfold tX10_init_97 at hf
      obtain ⟨k16, hf⟩ := pm_if hf
      cases hf
      exact ih.2.2.2.2.2.2.2.2.2.2.2.2.2.1 x0 x1 x2 (pm_sz (pm_setR h s1 14 (some s0))) x0 (pm_new (pm_setR h s1 14 (some s0)) 40 16) (pw_new (pw_sR K0 rfl k16 (by decide)))  hi
    refine ⟨fun x0 x1 x2 s0 s1 h K0 hf => ?_, ?_⟩
    · obtain ⟨y, hf, hi⟩ := pm_iter_s hf
      have hf : tX10_init_106 x0 x1 x2 s0 s1 h = some y := hf
      unfold tX10_init_106 at hf
      obtain ⟨k17, hf⟩ := pm_if hf
      obtain ⟨k18, hf⟩ := pm_if hf
      have k18b := (congrFun (pkR rfl) x0).symm.trans k18
      cases hf
      exact ih.2.2.2.2.2.2.2.2.2.2.2.2.2.2.1 x0 x1 x2 (pm_sz (pm_setI (pm_setR h s1 15 (some s0)) x0 17 2048)) x0 (pm_new (pm_setI (pm_setR h s1 15 (some s0)) x0 17 2048) 8 0) (pw_new (pw_sI (pw_sR K0 rfl k17 (by decide)) (pkR rfl) k18b (by decide)))  hi
    refine ⟨fun x0 x1 x2 s0 s1 h K0 hf => ?_, ?_⟩
    · obtain ⟨y, hf, hi⟩ := pm_iter_s hf
      have hf : tX10_init_120 x0 x1 x2 s0 s1 h = some y := hf
      unfold tX10_init_120 at hf
      obtain ⟨v19, e20, hf⟩ := pm_lt hf
      obtain ⟨k21, hf⟩ := pm_if hf
      obtain ⟨k22, hf⟩ := pm_if hf
      have k22b := (congrFun (pkR rfl) x0).symm.trans k22
      cases hf
      exact ih.2.2.2.2.2.2.2.2.2.2.2.2.2.2.2.1 x0 x2 (pm_sz (pm_setR (pm_setR h s1 19 (some s0)) x0 18 (some x1))) x0 (pm_new (pm_setR (pm_setR h s1 19 (some s0)) x0 18 (some x1)) 4 0) (pw_new (pw_sR (pw_sR K0 rfl k21 (by decide)) (pkR rfl) k22b (by decide)))  hi
    refine ⟨fun x0 x2 s0 s1 h K0 hf => ?_, ?_⟩
    · obtain ⟨y, hf, hi⟩ := pm_iter_s hf
      have hf : tX10_init_136 x0 x2 s0 s1 h = some y := hf
      unfold tX10_init_136 at hf
      obtain ⟨v23, e24, hf⟩ := pm_bd hf
      have K25 := pw_t (by decide) K0 (wfX4_init (pw_rf _) e24)
      cases hf
      exact ih.2.2.2.2.2.2.2.2.2.2.2.2.2.2.2.2.1 x0 s0 s1 v23 K25  hi
    refine ⟨fun x0 s0 s1 h K0 hf => ?_, ?_⟩
    · obtain ⟨y, hf, hi⟩ := pm_iter_s hf
      have hf : tX10_init_141 x0 s0 s1 h = some y := hf
      unfold tX10_init_141 at hf
      obtain ⟨k26, hf⟩ := pm_if hf
      cases hf
      exact ih.2.2.2.2.2.2.2.2.2.2.2.2.2.2.2.2.2.1 x0 (pm_sz (pm_setR h s1 16 (some s0))) (pm_new (pm_setR h s1 16 (some s0)) 0 0) (pw_new (pw_sR K0 rfl k26 (by decide)))  hi
    refine ⟨fun x0 s0 h K0 hf => ?_, ?_⟩
    · obtain ⟨y, hf, hi⟩ := pm_iter_s hf
      have hf : tX10_init_147 x0 s0 h = some y := hf
      unfold tX10_init_147 at hf
      cases hf
      exact ih.2.2.2.2.2.2.2.2.2.2.2.2.2.2.2.2.2.2.1 x0 (pm_sz h) s0 s0 (pm_new h 34 2) (pw_new K0)  hi
    refine ⟨fun x0 s0 s1 s2 h K0 hf => ?_, ?_⟩
    · obtain ⟨y, hf, hi⟩ := pm_iter_s hf
      have hf : tX10_init_151 x0 s0 s1 s2 h = some y := hf
      unfold tX10_init_151 at hf
      obtain ⟨v27, e28, hf⟩ := pm_bd hf
      have K29 := pw_t (by decide) K0 (wfX0_init (pw_rf _) e28)
      cases hf
      exact ih.2.2.2.2.2.2.2.2.2.2.2.2.2.2.2.2.2.2.2.1 x0 s2 v27 K29  hi
    refine ⟨fun x0 s0 h K0 hf => ?_, ?_⟩
    · obtain ⟨y, hf, hi⟩ := pm_iter_s hf
      have hf : tX10_init_155 x0 s0 h = some y := hf
      unfold tX10_init_155 at hf
      cases hf
      exact ih.2.2.2.2.2.2.2.2.2.2.2.2.2.2.2.2.2.2.2.2.1 x0 s0 0 h K0  hi
    refine ⟨fun x0 x3 x4 h K0 hf => ?_, ?_⟩
    · obtain ⟨y, hf, hi⟩ := pm_iter_s hf
      have hf : tX10_init_159 x0 x3 x4 h = some y := hf
      unfold tX10_init_159 at hf
      obtain ⟨k30, hf⟩ := pm_if hf
      obtain ⟨v31, e32, hf⟩ := pm_bd hf
      obtain ⟨k33, hf⟩ := pm_if hf
      by_cases c34 : (Int32.ofNat (pm_ln h v31)) ≤ x4
      · have hf := pm_it hf c34
        cases hf
        exact ih.2.2.2.2.2.2.2.2.2.2.2.2.2.2.2.2.2.2.2.2.2.1 x0 0 h K0  hi
      · have hf := pm_ie hf c34
        obtain ⟨k35, hf⟩ := pm_if hf
        obtain ⟨u36, hf⟩ := pm_if hf
        obtain ⟨y37, e38, hf⟩ := pm_lt hf
        cases hf
        exact ih.2.2.2.2.2.2.2.2.2.2.2.2.2.2.2.2.2.2.2.2.1 x0 x3 y37 (pm_setR h v31 x4.toNatClampNeg (some x3)) (pw_aR K0 rfl k33 (by decide) (by decide))  hi
    refine ⟨fun x0 x4 h K0 hf => ?_, ?_⟩
    · obtain ⟨y, hf, hi⟩ := pm_iter_s hf
      have hf : tX10_init_186 x0 x4 h = some y := hf
      unfold tX10_init_186 at hf
      obtain ⟨k39, hf⟩ := pm_if hf
      obtain ⟨v40, e41, hf⟩ := pm_bd hf
      obtain ⟨k42, hf⟩ := pm_if hf
      by_cases c43 : (Int32.ofNat (pm_ln h v40)) ≤ x4
      · have hf := pm_it hf c43
        cases hf
        exact ih.2.2.2.2.2.2.2.2.2.2.2.2.2.2.2.2.2.2.2.2.2.2 x0 0 h K0  hi
      · have hf := pm_ie hf c43
        obtain ⟨v44, e45, hf⟩ := pm_bd hf
        obtain ⟨k46, hf⟩ := pm_if hf
        obtain ⟨u47, hf⟩ := pm_if hf
        obtain ⟨y48, e49, hf⟩ := pm_lt hf
        cases hf
        exact ih.2.2.2.2.2.2.2.2.2.2.2.2.2.2.2.2.2.2.2.2.2.1 x0 y48 (pm_setR h v40 x4.toNatClampNeg (some v44)) (pw_aR K0 rfl k42 (by decide) (by decide))  hi
    refine fun x0 x4 h K0 hf => ?_
    obtain ⟨y, hf, hi⟩ := pm_iter_s hf
    have hf : tX10_init_216 x0 x4 h = some y := hf
    unfold tX10_init_216 at hf
    obtain ⟨k50, hf⟩ := pm_if hf
    obtain ⟨v51, e52, hf⟩ := pm_bd hf
    obtain ⟨k53, hf⟩ := pm_if hf
    by_cases c54 : (Int32.ofNat (pm_ln h v51)) ≤ x4
    · have hf := pm_it hf c54
      have hf := Option.some.inj hf
      subst hf
      have hi := Option.some.inj (show some _ = some r from hi)
      subst hi
      exact K0
    · have hf := pm_ie hf c54
      obtain ⟨v55, e56, hf⟩ := pm_bd hf
      obtain ⟨k57, hf⟩ := pm_if hf
      obtain ⟨u58, hf⟩ := pm_if hf
      obtain ⟨y59, e60, hf⟩ := pm_lt hf
      cases hf
      exact ih.2.2.2.2.2.2.2.2.2.2.2.2.2.2.2.2.2.2.2.2.2.2 x0 y59 (pm_setR h v51 x4.toNatClampNeg (some v55)) (pw_aR K0 rfl k53 (by decide) (by decide))  hi
set_option maxHeartbeats 4000000 in
set_option maxRecDepth 100000 in
theorem wfX10_init {h0 h : pm_H} (K0 : pw_F WX10_init h0 h) {a0 : Nat} {p1 : Nat} {p2 : Nat}  {r : pm_H} (hf : fX10_init h a0 p1 p2 = some r) : pw_F WX10_init h0 r := by
  unfold fX10_init at hf
  obtain ⟨n, hn⟩ := pm_lim_iter hf
  exact (wlX10_init n).1 a0 p1 p2 h K0  hn
abbrev WX12_init : List Nat := [0, 1, 5, 7, 8, 130, 131, 132, 133, 137, 139, 141, 143, 144, 145, 256, 257, 259, 262, 264, 265, 266, 384, 385, 386, 512, 513, 514, 515, 516, 517, 518, 519, 646, 648, 649, 650, 651, 652, 769, 770, 771, 772, 896, 897, 898, 899, 900, 901, 902, 903, 904, 905, 906, 907, 908, 909, 910, 1152, 1169, 1170, 1284, 1285, 1286, 1287, 1288, 1290, 1291, 1292, 1293, 1294, 1295, 1296, 1297, 1298, 1299, 1409, 1410, 1411, 1412, 1413, 1536, 1539, 1544, 1545, 1546, 1547, 1548, 1550, 4352, 4608, 4864, 4992, 5120, 5248]
set_option maxHeartbeats 4000000 in
set_option maxRecDepth 100000 in
theorem wlX12_init {h0 : pm_H} {r : pm_H} : ∀ n : Nat, (∀ (x0 : Nat) (h : pm_H), pw_F WX12_init h0 h → pm_iter sX12_init n (.inl (x0, h)) = some r → pw_F WX12_init h0 r) ∧ (∀ (x0 : Nat) (s0 : Nat) (s1 : Nat) (h : pm_H), pw_F WX12_init h0 h → pm_iter sX12_init n (.inr (.inl (x0, s0, s1, h))) = some r → pw_F WX12_init h0 r) ∧ (∀ (x0 : Nat) (s0 : Nat) (s1 : Nat) (h : pm_H), pw_F WX12_init h0 h → pm_iter sX12_init n (.inr (.inr (.inl (x0, s0, s1, h)))) = some r → pw_F WX12_init h0 r) ∧ (∀ (x0 : Nat) (s0 : Nat) (s1 : Nat) (h : pm_H), pw_F WX12_init h0 h → pm_iter sX12_init n (.inr (.inr (.inr (.inl (x0, s0, s1, h))))) = some r → pw_F WX12_init h0 r) ∧ (∀ (x0 : Nat) (s0 : Nat) (s1 : Nat) (h : pm_H), pw_F WX12_init h0 h → pm_iter sX12_init n (.inr (.inr (.inr (.inr (.inl (x0, s0, s1, h)))))) = some r → pw_F WX12_init h0 r) ∧ (∀ (x0 : Nat) (s0 : Nat) (h : pm_H), pw_F WX12_init h0 h → pm_iter sX12_init n (.inr (.inr (.inr (.inr (.inr (.inl (x0, s0, h))))))) = some r → pw_F WX12_init h0 r) ∧ (∀ (x0 : Nat) (s0 : Nat) (s1 : Nat) (s2 : Nat) (h : pm_H), pw_F WX12_init h0 h → pm_iter sX12_init n (.inr (.inr (.inr (.inr (.inr (.inr (.inl (x0, s0, s1, s2, h)))))))) = some r → pw_F WX12_init h0 r) ∧ (∀ (x0 : Nat) (s0 : Nat) (h : pm_H), pw_F WX12_init h0 h → pm_iter sX12_init n (.inr (.inr (.inr (.inr (.inr (.inr (.inr (.inl (x0, s0, h))))))))) = some r → pw_F WX12_init h0 r) ∧ (∀ (x0 : Nat) (x1 : Nat) (x2 : Int32) (h : pm_H), pw_F WX12_init h0 h → pm_iter sX12_init n (.inr (.inr (.inr (.inr (.inr (.inr (.inr (.inr (.inl (x0, x1, x2, h)))))))))) = some r → pw_F WX12_init h0 r) ∧ (∀ (x0 : Nat) (x1 : Nat) (s0 : Nat) (s1 : Nat) (h : pm_H), pw_F WX12_init h0 h → pm_iter sX12_init n (.inr (.inr (.inr (.inr (.inr (.inr (.inr (.inr (.inr (.inl (x0, x1, s0, s1, h))))))))))) = some r → pw_F WX12_init h0 r) ∧ (∀ (x0 : Nat) (x1 : Nat) (s0 : Nat) (s1 : Nat) (h : pm_H), pw_F WX12_init h0 h → pm_iter sX12_init n (.inr (.inr (.inr (.inr (.inr (.inr (.inr (.inr (.inr (.inr (.inl (x0, x1, s0, s1, h)))))))))))) = some r → pw_F WX12_init h0 r) ∧ (∀ (x0 : Nat) (x1 : Nat) (s0 : Nat) (s1 : Nat) (h : pm_H), pw_F WX12_init h0 h → pm_iter sX12_init n (.inr (.inr (.inr (.inr (.inr (.inr (.inr (.inr (.inr (.inr (.inr (.inl (x0, x1, s0, s1, h))))))))))))) = some r → pw_F WX12_init h0 r) ∧ (∀ (x0 : Nat) (x1 : Nat) (s0 : Nat) (s1 : Nat) (h : pm_H), pw_F WX12_init h0 h → pm_iter sX12_init n (.inr (.inr (.inr (.inr (.inr (.inr (.inr (.inr (.inr (.inr (.inr (.inr (.inl (x0, x1, s0, s1, h)))))))))))))) = some r → pw_F WX12_init h0 r) ∧ (∀ (x0 : Nat) (x1 : Nat) (s0 : Nat) (s1 : Nat) (h : pm_H), pw_F WX12_init h0 h → pm_iter sX12_init n (.inr (.inr (.inr (.inr (.inr (.inr (.inr (.inr (.inr (.inr (.inr (.inr (.inr (.inl (x0, x1, s0, s1, h))))))))))))))) = some r → pw_F WX12_init h0 r) ∧ (∀ (x0 : Nat) (s0 : Nat) (s1 : Nat) (h : pm_H), pw_F WX12_init h0 h → pm_iter sX12_init n (.inr (.inr (.inr (.inr (.inr (.inr (.inr (.inr (.inr (.inr (.inr (.inr (.inr (.inr (.inl (x0, s0, s1, h)))))))))))))))) = some r → pw_F WX12_init h0 r) ∧ (∀ (x0 : Nat) (s0 : Nat) (s1 : Nat) (h : pm_H), pw_F WX12_init h0 h → pm_iter sX12_init n (.inr (.inr (.inr (.inr (.inr (.inr (.inr (.inr (.inr (.inr (.inr (.inr (.inr (.inr (.inr (.inl (x0, s0, s1, h))))))))))))))))) = some r → pw_F WX12_init h0 r) ∧ (∀ (s0 : Nat) (s1 : Nat) (h : pm_H), pw_F WX12_init h0 h → pm_iter sX12_init n (.inr (.inr (.inr (.inr (.inr (.inr (.inr (.inr (.inr (.inr (.inr (.inr (.inr (.inr (.inr (.inr (s0, s1, h))))))))))))))))) = some r → pw_F WX12_init h0 r) := by
  intro n
  induction n with
  | zero => exact ⟨fun _ _ _ hf => (by cases hf), fun _ _ _ _ _ hf => (by cases hf), fun _ _ _ _ _ hf => (by cases hf), fun _ _ _ _ _ hf => (by cases hf), fun _ _ _ _ _ hf => (by cases hf), fun _ _ _ _ hf => (by cases hf), fun _ _ _ _ _ _ hf => (by cases hf), fun _ _ _ _ hf => (by cases hf), fun _ _ _ _ _ hf => (by cases hf), fun _ _ _ _ _ _ hf => (by cases hf), fun _ _ _ _ _ _ hf => (by cases hf), fun _ _ _ _ _ _ hf => (by cases hf), fun _ _ _ _ _ _ hf => (by cases hf), fun _ _ _ _ _ _ hf => (by cases hf), fun _ _ _ _ _ hf => (by cases hf), fun _ _ _ _ _ hf => (by cases hf), fun _ _ _ _ hf => (by cases hf)⟩
  | succ n ih =>
    refine ⟨fun x0 h K0 hf => ?_, ?_⟩
    · obtain ⟨y, hf, hi⟩ := pm_iter_s hf
      have hf : tX12_init_0 x0 h = some y := hf
      unfold tX12_init_0 at hf
      cases hf
      exact ih.2.1 x0 (pm_sz h) x0 (pm_new h 33 40960) (pw_new K0)  hi
    refine ⟨fun x0 s0 s1 h K0 hf => ?_, ?_⟩
    · obtain ⟨y, hf, hi⟩ := pm_iter_s hf
      have hf : tX12_init_9 x0 s0 s1 h = some y := hf
      unfold tX12_init_9 at hf
      obtain ⟨k1, hf⟩ := pm_if hf
      cases hf
      exact ih.2.2.1 x0 (pm_sz (pm_setR h s1 0 (some s0))) x0 (pm_new (pm_setR h s1 0 (some s0)) 41 16) (pw_new (pw_sR K0 rfl k1 (by decide)))  hi
    refine ⟨fun x0 s0 s1 h K0 hf => ?_, ?_⟩
    · obtain ⟨y, hf, hi⟩ := pm_iter_s hf
      have hf : tX12_init_18 x0 s0 s1 h = some y := hf
      unfold tX12_init_18 at hf
      obtain ⟨k2, hf⟩ := pm_if hf
      cases hf
      exact ih.2.2.2.1 x0 (pm_sz (pm_setR h s1 3 (some s0))) x0 (pm_new (pm_setR h s1 3 (some s0)) 34 128) (pw_new (pw_sR K0 rfl k2 (by decide)))  hi
    refine ⟨fun x0 s0 s1 h K0 hf => ?_, ?_⟩
    · obtain ⟨y, hf, hi⟩ := pm_iter_s hf
      have hf : tX12_init_27 x0 s0 s1 h = some y := hf
      unfold tX12_init_27 at hf
      obtain ⟨k3, hf⟩ := pm_if hf
      cases hf
      exact ih.2.2.2.2.1 x0 (pm_sz (pm_setR h s1 12 (some s0))) x0 (pm_new (pm_setR h s1 12 (some s0)) 35 16) (pw_new (pw_sR K0 rfl k3 (by decide)))  hi
    refine ⟨fun x0 s0 s1 h K0 hf => ?_, ?_⟩
    · obtain ⟨y, hf, hi⟩ := pm_iter_s hf
      have hf : tX12_init_35 x0 s0 s1 h = some y := hf
      unfold tX12_init_35 at hf
      obtain ⟨k4, hf⟩ := pm_if hf
      cases hf
      exact ih.2.2.2.2.2.1 x0 (pm_sz (pm_setR h s1 14 (some s0))) (pm_new (pm_setR h s1 14 (some s0)) 7 0) (pw_new (pw_sR K0 rfl k4 (by decide)))  hi
    refine ⟨fun x0 s0 h K0 hf => ?_, ?_⟩
    · obtain ⟨y, hf, hi⟩ := pm_iter_s hf
      have hf : tX12_init_41 x0 s0 h = some y := hf
      unfold tX12_init_41 at hf
      cases hf
      exact ih.2.2.2.2.2.2.1 x0 (pm_sz h) s0 s0 (pm_new h 33 0) (pw_new K0)  hi
    refine ⟨fun x0 s0 s1 s2 h K0 hf => ?_, ?_⟩
    · obtain ⟨y, hf, hi⟩ := pm_iter_s hf
      have hf : tX12_init_45 x0 s0 s1 s2 h = some y := hf
      unfold tX12_init_45 at hf
      obtain ⟨v5, e6, hf⟩ := pm_bd hf
      have K7 := pw_t (by decide) K0 (wfX7_init (pw_rf _) e6)
      cases hf
      exact ih.2.2.2.2.2.2.2.1 x0 s2 v5 K7  hi
    refine ⟨fun x0 s0 h K0 hf => ?_, ?_⟩
    · obtain ⟨y, hf, hi⟩ := pm_iter_s hf
      have hf : tX12_init_48 x0 s0 h = some y := hf
      unfold tX12_init_48 at hf
      cases hf
      exact ih.2.2.2.2.2.2.2.2.1 x0 s0 0 h K0  hi
    refine ⟨fun x0 x1 x2 h K0 hf => ?_, ?_⟩
    · obtain ⟨y, hf, hi⟩ := pm_iter_s hf
      have hf : tX12_init_51 x0 x1 x2 h = some y := hf
      unfold tX12_init_51 at hf
      obtain ⟨k8, hf⟩ := pm_if hf
      obtain ⟨v9, e10, hf⟩ := pm_bd hf
      obtain ⟨k11, hf⟩ := pm_if hf
      by_cases c12 : (Int32.ofNat (pm_ln h v9)) ≤ x2
      · have hf := pm_it hf c12
        cases hf
        exact ih.2.2.2.2.2.2.2.2.2.1 x0 x1 (pm_sz h) x0 (pm_new h 9 0) (pw_new K0)  hi
      · have hf := pm_ie hf c12
        obtain ⟨k13, hf⟩ := pm_if hf
        obtain ⟨u14, hf⟩ := pm_if hf
        obtain ⟨y15, e16, hf⟩ := pm_lt hf
        cases hf
        exact ih.2.2.2.2.2.2.2.2.1 x0 x1 y15 (pm_setR h v9 x2.toNatClampNeg (some x1)) (pw_aR K0 rfl k11 (by decide) (by decide))  hi
    refine ⟨fun x0 x1 s0 s1 h K0 hf => ?_, ?_⟩
    · obtain ⟨y, hf, hi⟩ := pm_iter_s hf
      have hf : tX12_init_77 x0 x1 s0 s1 h = some y := hf
      unfold tX12_init_77 at hf
      obtain ⟨v17, e18, hf⟩ := pm_bd hf
      have K19 := pw_t (by decide) K0 (wfX9_init (pw_rf _) e18)
      cases hf
      exact ih.2.2.2.2.2.2.2.2.2.2.1 x0 x1 s0 s1 v17 K19  hi
    refine ⟨fun x0 x1 s0 s1 h K0 hf => ?_, ?_⟩
    · obtain ⟨y, hf, hi⟩ := pm_iter_s hf
      have hf : tX12_init_82 x0 x1 s0 s1 h = some y := hf
      unfold tX12_init_82 at hf
      obtain ⟨k20, hf⟩ := pm_if hf
      cases hf
      exact ih.2.2.2.2.2.2.2.2.2.2.2.1 x0 x1 (pm_sz (pm_setR h s1 8 (some s0))) x0 (pm_new (pm_setR h s1 8 (some s0)) 1 0) (pw_new (pw_sR K0 rfl k20 (by decide)))  hi
    refine ⟨fun x0 x1 s0 s1 h K0 hf => ?_, ?_⟩
    · obtain ⟨y, hf, hi⟩ := pm_iter_s hf
      have hf : tX12_init_89 x0 x1 s0 s1 h = some y := hf
      unfold tX12_init_89 at hf
      obtain ⟨k21, hf⟩ := pm_if hf
      obtain ⟨v22, e23, hf⟩ := pm_bd hf
      obtain ⟨v24, e25, hf⟩ := pm_bd hf
      have K26 := pw_t (by decide) K0 (wfX1_init (pw_rf _) e25)
      cases hf
      exact ih.2.2.2.2.2.2.2.2.2.2.2.2.1 x0 x1 s0 s1 v24 K26  hi
    refine ⟨fun x0 x1 s0 s1 h K0 hf => ?_, ?_⟩
    · obtain ⟨y, hf, hi⟩ := pm_iter_s hf
      have hf : tX12_init_98 x0 x1 s0 s1 h = some y := hf
      unfold tX12_init_98 at hf
      obtain ⟨k27, hf⟩ := pm_if hf
      cases hf
      exact ih.2.2.2.2.2.2.2.2.2.2.2.2.2.1 x0 x1 (pm_sz (pm_setR h s1 9 (some s0))) x0 (pm_new (pm_setR h s1 9 (some s0)) 10 0) (pw_new (pw_sR K0 rfl k27 (by decide)))  hi
    refine ⟨fun x0 x1 s0 s1 h K0 hf => ?_, ?_⟩
    · obtain ⟨y, hf, hi⟩ := pm_iter_s hf
      have hf : tX12_init_105 x0 x1 s0 s1 h = some y := hf
      unfold tX12_init_105 at hf
      obtain ⟨k28, hf⟩ := pm_if hf
      obtain ⟨v29, e30, hf⟩ := pm_bd hf
      obtain ⟨v31, e32, hf⟩ := pm_bd hf
      have K33 := pw_t (by decide) K0 (wfX10_init (pw_rf _) e32)
      cases hf
      exact ih.2.2.2.2.2.2.2.2.2.2.2.2.2.2.1 x0 s0 s1 v31 K33  hi
    refine ⟨fun x0 s0 s1 h K0 hf => ?_, ?_⟩
    · obtain ⟨y, hf, hi⟩ := pm_iter_s hf
      have hf : tX12_init_114 x0 s0 s1 h = some y := hf
      unfold tX12_init_114 at hf
      obtain ⟨k34, hf⟩ := pm_if hf
      cases hf
      exact ih.2.2.2.2.2.2.2.2.2.2.2.2.2.2.2.1 x0 (pm_sz (pm_setR h s1 10 (some s0))) x0 (pm_new (pm_setR h s1 10 (some s0)) 5 0) (pw_new (pw_sR K0 rfl k34 (by decide)))  hi
    refine ⟨fun x0 s0 s1 h K0 hf => ?_, ?_⟩
    · obtain ⟨y, hf, hi⟩ := pm_iter_s hf
      have hf : tX12_init_121 x0 s0 s1 h = some y := hf
      unfold tX12_init_121 at hf
      obtain ⟨k35, hf⟩ := pm_if hf
      obtain ⟨v36, e37, hf⟩ := pm_bd hf
      obtain ⟨v38, e39, hf⟩ := pm_bd hf
      have K40 := pw_t (by decide) K0 (wfX5_init (pw_rf _) e39)
      cases hf
      exact ih.2.2.2.2.2.2.2.2.2.2.2.2.2.2.2.2 s0 s1 v38 K40  hi
    refine fun s0 s1 h K0 hf => ?_
    obtain ⟨y, hf, hi⟩ := pm_iter_s hf
    have hf : tX12_init_129 s0 s1 h = some y := hf
    unfold tX12_init_129 at hf
    obtain ⟨k41, hf⟩ := pm_if hf
    have hf := Option.some.inj hf
    subst hf
    have hi := Option.some.inj (show some _ = some r from hi)
    subst hi
    exact (pw_sR K0 rfl k41 (by decide))
set_option maxHeartbeats 4000000 in
set_option maxRecDepth 100000 in
theorem wfX12_init {h0 h : pm_H} (K0 : pw_F WX12_init h0 h) {a0 : Nat}  {r : pm_H} (hf : fX12_init h a0 = some r) : pw_F WX12_init h0 r := by
  unfold fX12_init at hf
  obtain ⟨n, hn⟩ := pm_lim_iter hf
  exact (wlX12_init n).1 a0 h K0  hn
abbrev WX6_save : List Nat := [4224]
set_option maxHeartbeats 4000000 in
set_option maxRecDepth 100000 in
theorem wlX6_save {h0 : pm_H} {r : pm_H} : ∀ n : Nat, (∀ (x0 : Nat) (x1 : Int32) (x3 : Int64) (x5 : Int64) (x7 : Int32) (x8 : Int32) (h : pm_H), pw_F WX6_save h0 h → pm_iter sX6_save n (x0, x1, x3, x5, x7, x8, h) = some r → pw_F WX6_save h0 r) := by
  intro n
  induction n with
  | zero => exact fun _ _ _ _ _ _ _ _ hf => (by cases hf)
  | succ n ih =>
    refine fun x0 x1 x3 x5 x7 x8 h K0 hf => ?_
    obtain ⟨y, hf, hi⟩ := pm_iter_s hf
    have hf : tX6_save_11 x0 x1 x3 x5 x7 x8 h = some y := hf
    unfold tX6_save_11 at hf
    by_cases c5 : x7 ≤ x8
    · have hf := pm_it hf c5
      cases hf
      cases hi
      exact K0
    · have hf := pm_ie hf c5
      obtain ⟨k6, hf⟩ := pm_if hf
      obtain ⟨v7, e8, hf⟩ := pm_bd hf
      have K9 := pw_t (by decide) K0 (wfX6_setByte (pw_rf _) e8)
      obtain ⟨y10, e11, hf⟩ := pm_lt hf
      cases hf
      exact ih x0 x1 x3 x5 x7 y10 v7 K9  hi
set_option maxHeartbeats 4000000 in
set_option maxRecDepth 100000 in
theorem wfX6_save {h0 h : pm_H} (K0 : pw_F WX6_save h0 h) {a0 : Nat} {p1 : Int32} {p2 : Int32} {p3 : Int64} {p4 : Int64}  {r : pm_H} (hf : fX6_save h a0 p1 p2 p3 p4 = some r) : pw_F WX6_save h0 r := by
  unfold fX6_save at hf
  obtain ⟨v1, e2, hf⟩ := pm_bd hf
  obtain ⟨y3, e4, hf⟩ := pm_lt hf
  obtain ⟨n, hn⟩ := pm_lim_iter hf
  exact (wlX6_save n) a0 p1 p3 p4 y3 0 h K0  hn
abbrev WX8_toWhole : List Nat := [1024]
set_option maxHeartbeats 4000000 in
set_option maxRecDepth 100000 in
theorem wfX8_toWhole {h0 h : pm_H} (K0 : pw_F WX8_toWhole h0 h) {a0 : Nat} {p1 : Int32} {p2 : Int64}  {r : (Int64 × pm_H)} (hf : fX8_toWhole h a0 p1 p2 = some r) : pw_F WX8_toWhole h0 r.2 := by
  unfold fX8_toWhole at hf
  by_cases c1 : p1 = 167
  · have hf := pm_it hf c1
    cases hf
    exact K0
  have hf := pm_ie hf c1
  by_cases c2 : p1 = 168
  · have hf := pm_it hf c2
    obtain ⟨v3, e4, hf⟩ := pm_bd hf
    obtain ⟨v5, e6, hf⟩ := pm_bd hf
    by_cases c7 : v5 = 0
    · have hf := pm_it hf c7
      obtain ⟨k8, hf⟩ := pm_if hf
      obtain ⟨v9, e10, hf⟩ := pm_bd hf
      have K11 := pw_t (by decide) K0 (wfX8_truncated (pw_rf _) e10)
      cases hf
      exact K11
    · have hf := pm_ie hf c7
      obtain ⟨k12, hf⟩ := pm_if hf
      obtain ⟨v13, e14, hf⟩ := pm_bd hf
      have K15 := pw_t (by decide) K0 (wfX8_truncated (pw_rf _) e14)
      cases hf
      exact K15
  have hf := pm_ie hf c2
  by_cases c16 : p1 = 169
  · have hf := pm_it hf c16
    obtain ⟨v17, e18, hf⟩ := pm_bd hf
    obtain ⟨v19, e20, hf⟩ := pm_bd hf
    by_cases c21 : v19 = 0
    · have hf := pm_it hf c21
      obtain ⟨k22, hf⟩ := pm_if hf
      obtain ⟨v23, e24, hf⟩ := pm_bd hf
      have K25 := pw_t (by decide) K0 (wfX8_truncated (pw_rf _) e24)
      cases hf
      exact K25
    · have hf := pm_ie hf c21
      obtain ⟨k26, hf⟩ := pm_if hf
      obtain ⟨v27, e28, hf⟩ := pm_bd hf
      have K29 := pw_t (by decide) K0 (wfX8_truncated (pw_rf _) e28)
      cases hf
      exact K29
  have hf := pm_ie hf c16
  by_cases c30 : p1 = 170
  · have hf := pm_it hf c30
    obtain ⟨v31, e32, hf⟩ := pm_bd hf
    obtain ⟨v33, e34, hf⟩ := pm_bd hf
    by_cases c35 : v33 = 0
    · have hf := pm_it hf c35
      obtain ⟨k36, hf⟩ := pm_if hf
      obtain ⟨v37, e38, hf⟩ := pm_bd hf
      have K39 := pw_t (by decide) K0 (wfX8_truncated (pw_rf _) e38)
      cases hf
      exact K39
    · have hf := pm_ie hf c35
      obtain ⟨k40, hf⟩ := pm_if hf
      obtain ⟨v41, e42, hf⟩ := pm_bd hf
      have K43 := pw_t (by decide) K0 (wfX8_truncated (pw_rf _) e42)
      cases hf
      exact K43
  have hf := pm_ie hf c30
  by_cases c44 : p1 = 171
  · have hf := pm_it hf c44
    obtain ⟨v45, e46, hf⟩ := pm_bd hf
    obtain ⟨v47, e48, hf⟩ := pm_bd hf
    by_cases c49 : v47 = 0
    · have hf := pm_it hf c49
      obtain ⟨k50, hf⟩ := pm_if hf
      obtain ⟨v51, e52, hf⟩ := pm_bd hf
      have K53 := pw_t (by decide) K0 (wfX8_truncated (pw_rf _) e52)
      cases hf
      exact K53
    · have hf := pm_ie hf c49
      obtain ⟨k54, hf⟩ := pm_if hf
      obtain ⟨v55, e56, hf⟩ := pm_bd hf
      have K57 := pw_t (by decide) K0 (wfX8_truncated (pw_rf _) e56)
      cases hf
      exact K57
  have hf := pm_ie hf c44
  by_cases c58 : p1 = 172
  · have hf := pm_it hf c58
    cases hf
    exact K0
  have hf := pm_ie hf c58
  by_cases c59 : p1 = 173
  · have hf := pm_it hf c59
    cases hf
    exact K0
  have hf := pm_ie hf c59
  by_cases c60 : p1 = 174
  · have hf := pm_it hf c60
    obtain ⟨v61, e62, hf⟩ := pm_bd hf
    obtain ⟨v63, e64, hf⟩ := pm_bd hf
    by_cases c65 : v63 = 0
    · have hf := pm_it hf c65
      obtain ⟨k66, hf⟩ := pm_if hf
      obtain ⟨v67, e68, hf⟩ := pm_bd hf
      have K69 := pw_t (by decide) K0 (wfX8_truncated (pw_rf _) e68)
      cases hf
      exact K69
    · have hf := pm_ie hf c65
      obtain ⟨k70, hf⟩ := pm_if hf
      obtain ⟨v71, e72, hf⟩ := pm_bd hf
      have K73 := pw_t (by decide) K0 (wfX8_truncated (pw_rf _) e72)
      cases hf
      exact K73
  have hf := pm_ie hf c60
  by_cases c74 : p1 = 175
  · have hf := pm_it hf c74
    obtain ⟨v75, e76, hf⟩ := pm_bd hf
    obtain ⟨v77, e78, hf⟩ := pm_bd hf
    by_cases c79 : v77 = 0
    · have hf := pm_it hf c79
      obtain ⟨k80, hf⟩ := pm_if hf
      obtain ⟨v81, e82, hf⟩ := pm_bd hf
      have K83 := pw_t (by decide) K0 (wfX8_truncated (pw_rf _) e82)
      cases hf
      exact K83
    · have hf := pm_ie hf c79
      obtain ⟨k84, hf⟩ := pm_if hf
      obtain ⟨v85, e86, hf⟩ := pm_bd hf
      have K87 := pw_t (by decide) K0 (wfX8_truncated (pw_rf _) e86)
      cases hf
      exact K87
  have hf := pm_ie hf c74
  by_cases c88 : p1 = 176
  · have hf := pm_it hf c88
    obtain ⟨v89, e90, hf⟩ := pm_bd hf
    obtain ⟨v91, e92, hf⟩ := pm_bd hf
    by_cases c93 : v91 = 0
    · have hf := pm_it hf c93
      obtain ⟨k94, hf⟩ := pm_if hf
      obtain ⟨v95, e96, hf⟩ := pm_bd hf
      have K97 := pw_t (by decide) K0 (wfX8_truncated (pw_rf _) e96)
      cases hf
      exact K97
    · have hf := pm_ie hf c93
      obtain ⟨k98, hf⟩ := pm_if hf
      obtain ⟨v99, e100, hf⟩ := pm_bd hf
      have K101 := pw_t (by decide) K0 (wfX8_truncated (pw_rf _) e100)
      cases hf
      exact K101
  have hf := pm_ie hf c88
  by_cases c102 : p1 = 177
  · have hf := pm_it hf c102
    obtain ⟨v103, e104, hf⟩ := pm_bd hf
    obtain ⟨v105, e106, hf⟩ := pm_bd hf
    by_cases c107 : v105 = 0
    · have hf := pm_it hf c107
      obtain ⟨k108, hf⟩ := pm_if hf
      obtain ⟨v109, e110, hf⟩ := pm_bd hf
      have K111 := pw_t (by decide) K0 (wfX8_truncated (pw_rf _) e110)
      cases hf
      exact K111
    · have hf := pm_ie hf c107
      obtain ⟨k112, hf⟩ := pm_if hf
      obtain ⟨v113, e114, hf⟩ := pm_bd hf
      have K115 := pw_t (by decide) K0 (wfX8_truncated (pw_rf _) e114)
      cases hf
      exact K115
  have hf := pm_ie hf c102
  by_cases c116 : p1 = 178
  · have hf := pm_it hf c116
    obtain ⟨v117, e118, hf⟩ := pm_bd hf
    obtain ⟨v119, e120, hf⟩ := pm_bd hf
    by_cases c121 : v119 = 0
    · have hf := pm_it hf c121
      obtain ⟨k122, hf⟩ := pm_if hf
      obtain ⟨v123, e124, hf⟩ := pm_bd hf
      have K125 := pw_t (by decide) K0 (wfX8_truncated (pw_rf _) e124)
      cases hf
      exact K125
    · have hf := pm_ie hf c121
      obtain ⟨k126, hf⟩ := pm_if hf
      obtain ⟨v127, e128, hf⟩ := pm_bd hf
      have K129 := pw_t (by decide) K0 (wfX8_truncated (pw_rf _) e128)
      cases hf
      exact K129
  have hf := pm_ie hf c116
  by_cases c130 : p1 = 179
  · have hf := pm_it hf c130
    obtain ⟨v131, e132, hf⟩ := pm_bd hf
    obtain ⟨v133, e134, hf⟩ := pm_bd hf
    by_cases c135 : v133 = 0
    · have hf := pm_it hf c135
      obtain ⟨k136, hf⟩ := pm_if hf
      obtain ⟨v137, e138, hf⟩ := pm_bd hf
      have K139 := pw_t (by decide) K0 (wfX8_truncated (pw_rf _) e138)
      cases hf
      exact K139
    · have hf := pm_ie hf c135
      obtain ⟨k140, hf⟩ := pm_if hf
      obtain ⟨v141, e142, hf⟩ := pm_bd hf
      have K143 := pw_t (by decide) K0 (wfX8_truncated (pw_rf _) e142)
      cases hf
      exact K143
  have hf := pm_ie hf c130
  by_cases c144 : p1 = 180
  · have hf := pm_it hf c144
    obtain ⟨v145, e146, hf⟩ := pm_bd hf
    obtain ⟨v147, e148, hf⟩ := pm_bd hf
    by_cases c149 : v147 = 0
    · have hf := pm_it hf c149
      obtain ⟨k150, hf⟩ := pm_if hf
      obtain ⟨v151, e152, hf⟩ := pm_bd hf
      have K153 := pw_t (by decide) K0 (wfX8_truncated (pw_rf _) e152)
      cases hf
      exact K153
    · have hf := pm_ie hf c149
      obtain ⟨k154, hf⟩ := pm_if hf
      obtain ⟨v155, e156, hf⟩ := pm_bd hf
      have K157 := pw_t (by decide) K0 (wfX8_truncated (pw_rf _) e156)
      cases hf
      exact K157
  have hf := pm_ie hf c144
  by_cases c158 : p1 = 181
  · have hf := pm_it hf c158
    obtain ⟨v159, e160, hf⟩ := pm_bd hf
    obtain ⟨v161, e162, hf⟩ := pm_bd hf
    by_cases c163 : v161 = 0
    · have hf := pm_it hf c163
      obtain ⟨k164, hf⟩ := pm_if hf
      obtain ⟨v165, e166, hf⟩ := pm_bd hf
      have K167 := pw_t (by decide) K0 (wfX8_truncated (pw_rf _) e166)
      cases hf
      exact K167
    · have hf := pm_ie hf c163
      obtain ⟨k168, hf⟩ := pm_if hf
      obtain ⟨v169, e170, hf⟩ := pm_bd hf
      have K171 := pw_t (by decide) K0 (wfX8_truncated (pw_rf _) e170)
      cases hf
      exact K171
  have hf := pm_ie hf c158
  by_cases c172 : p1 = 182
  · have hf := pm_it hf c172
    obtain ⟨v173, e174, hf⟩ := pm_bd hf
    obtain ⟨v175, e176, hf⟩ := pm_bd hf
    by_cases c177 : v175 = 0
    · have hf := pm_it hf c177
      obtain ⟨k178, hf⟩ := pm_if hf
      obtain ⟨v179, e180, hf⟩ := pm_bd hf
      have K181 := pw_t (by decide) K0 (wfX8_truncated (pw_rf _) e180)
      cases hf
      exact K181
    · have hf := pm_ie hf c177
      obtain ⟨k182, hf⟩ := pm_if hf
      obtain ⟨v183, e184, hf⟩ := pm_bd hf
      have K185 := pw_t (by decide) K0 (wfX8_truncated (pw_rf _) e184)
      cases hf
      exact K185
  have hf := pm_ie hf c172
  by_cases c186 : p1 = 183
  · have hf := pm_it hf c186
    obtain ⟨v187, e188, hf⟩ := pm_bd hf
    obtain ⟨v189, e190, hf⟩ := pm_bd hf
    by_cases c191 : v189 = 0
    · have hf := pm_it hf c191
      obtain ⟨k192, hf⟩ := pm_if hf
      obtain ⟨v193, e194, hf⟩ := pm_bd hf
      have K195 := pw_t (by decide) K0 (wfX8_truncated (pw_rf _) e194)
      cases hf
      exact K195
    · have hf := pm_ie hf c191
      obtain ⟨k196, hf⟩ := pm_if hf
      obtain ⟨v197, e198, hf⟩ := pm_bd hf
      have K199 := pw_t (by decide) K0 (wfX8_truncated (pw_rf _) e198)
      cases hf
      exact K199
  have hf := pm_ie hf c186
  by_cases c200 : p1 = 184
  · have hf := pm_it hf c200
    obtain ⟨v201, e202, hf⟩ := pm_bd hf
    obtain ⟨v203, e204, hf⟩ := pm_bd hf
    by_cases c205 : v203 = 0
    · have hf := pm_it hf c205
      obtain ⟨k206, hf⟩ := pm_if hf
      obtain ⟨v207, e208, hf⟩ := pm_bd hf
      have K209 := pw_t (by decide) K0 (wfX8_truncated (pw_rf _) e208)
      cases hf
      exact K209
    · have hf := pm_ie hf c205
      obtain ⟨k210, hf⟩ := pm_if hf
      obtain ⟨v211, e212, hf⟩ := pm_bd hf
      have K213 := pw_t (by decide) K0 (wfX8_truncated (pw_rf _) e212)
      cases hf
      exact K213
  have hf := pm_ie hf c200
  by_cases c214 : p1 = 185
  · have hf := pm_it hf c214
    obtain ⟨v215, e216, hf⟩ := pm_bd hf
    obtain ⟨v217, e218, hf⟩ := pm_bd hf
    by_cases c219 : v217 = 0
    · have hf := pm_it hf c219
      obtain ⟨k220, hf⟩ := pm_if hf
      obtain ⟨v221, e222, hf⟩ := pm_bd hf
      have K223 := pw_t (by decide) K0 (wfX8_truncated (pw_rf _) e222)
      cases hf
      exact K223
    · have hf := pm_ie hf c219
      obtain ⟨k224, hf⟩ := pm_if hf
      obtain ⟨v225, e226, hf⟩ := pm_bd hf
      have K227 := pw_t (by decide) K0 (wfX8_truncated (pw_rf _) e226)
      cases hf
      exact K227
  have hf := pm_ie hf c214
  by_cases c228 : p1 = 186
  · have hf := pm_it hf c228
    obtain ⟨v229, e230, hf⟩ := pm_bd hf
    obtain ⟨v231, e232, hf⟩ := pm_bd hf
    by_cases c233 : v231 = 0
    · have hf := pm_it hf c233
      obtain ⟨k234, hf⟩ := pm_if hf
      obtain ⟨v235, e236, hf⟩ := pm_bd hf
      have K237 := pw_t (by decide) K0 (wfX8_truncated (pw_rf _) e236)
      cases hf
      exact K237
    · have hf := pm_ie hf c233
      obtain ⟨k238, hf⟩ := pm_if hf
      obtain ⟨v239, e240, hf⟩ := pm_bd hf
      have K241 := pw_t (by decide) K0 (wfX8_truncated (pw_rf _) e240)
      cases hf
      exact K241
  have hf := pm_ie hf c228
  by_cases c242 : p1 = 187
  · have hf := pm_it hf c242
    obtain ⟨v243, e244, hf⟩ := pm_bd hf
    obtain ⟨v245, e246, hf⟩ := pm_bd hf
    by_cases c247 : v245 = 0
    · have hf := pm_it hf c247
      obtain ⟨k248, hf⟩ := pm_if hf
      obtain ⟨v249, e250, hf⟩ := pm_bd hf
      have K251 := pw_t (by decide) K0 (wfX8_truncated (pw_rf _) e250)
      cases hf
      exact K251
    · have hf := pm_ie hf c247
      obtain ⟨k252, hf⟩ := pm_if hf
      obtain ⟨v253, e254, hf⟩ := pm_bd hf
      have K255 := pw_t (by decide) K0 (wfX8_truncated (pw_rf _) e254)
      cases hf
      exact K255
  have hf := pm_ie hf c242
  by_cases c256 : p1 = 188
  · have hf := pm_it hf c256
    obtain ⟨v257, e258, hf⟩ := pm_bd hf
    obtain ⟨v259, e260, hf⟩ := pm_bd hf
    by_cases c261 : v259 = 0
    · have hf := pm_it hf c261
      obtain ⟨k262, hf⟩ := pm_if hf
      obtain ⟨v263, e264, hf⟩ := pm_bd hf
      have K265 := pw_t (by decide) K0 (wfX8_truncated (pw_rf _) e264)
      cases hf
      exact K265
    · have hf := pm_ie hf c261
      obtain ⟨k266, hf⟩ := pm_if hf
      obtain ⟨v267, e268, hf⟩ := pm_bd hf
      have K269 := pw_t (by decide) K0 (wfX8_truncated (pw_rf _) e268)
      cases hf
      exact K269
  have hf := pm_ie hf c256
  by_cases c270 : p1 = 189
  · have hf := pm_it hf c270
    obtain ⟨v271, e272, hf⟩ := pm_bd hf
    obtain ⟨v273, e274, hf⟩ := pm_bd hf
    by_cases c275 : v273 = 0
    · have hf := pm_it hf c275
      obtain ⟨k276, hf⟩ := pm_if hf
      obtain ⟨v277, e278, hf⟩ := pm_bd hf
      have K279 := pw_t (by decide) K0 (wfX8_truncated (pw_rf _) e278)
      cases hf
      exact K279
    · have hf := pm_ie hf c275
      obtain ⟨k280, hf⟩ := pm_if hf
      obtain ⟨v281, e282, hf⟩ := pm_bd hf
      have K283 := pw_t (by decide) K0 (wfX8_truncated (pw_rf _) e282)
      cases hf
      exact K283
  have hf := pm_ie hf c270
  by_cases c284 : p1 = 190
  · have hf := pm_it hf c284
    obtain ⟨v285, e286, hf⟩ := pm_bd hf
    obtain ⟨v287, e288, hf⟩ := pm_bd hf
    by_cases c289 : v287 = 0
    · have hf := pm_it hf c289
      obtain ⟨k290, hf⟩ := pm_if hf
      obtain ⟨v291, e292, hf⟩ := pm_bd hf
      have K293 := pw_t (by decide) K0 (wfX8_truncated (pw_rf _) e292)
      cases hf
      exact K293
    · have hf := pm_ie hf c289
      obtain ⟨k294, hf⟩ := pm_if hf
      obtain ⟨v295, e296, hf⟩ := pm_bd hf
      have K297 := pw_t (by decide) K0 (wfX8_truncated (pw_rf _) e296)
      cases hf
      exact K297
  have hf := pm_ie hf c284
  by_cases c298 : p1 = 191
  · have hf := pm_it hf c298
    obtain ⟨v299, e300, hf⟩ := pm_bd hf
    obtain ⟨v301, e302, hf⟩ := pm_bd hf
    by_cases c303 : v301 = 0
    · have hf := pm_it hf c303
      obtain ⟨k304, hf⟩ := pm_if hf
      obtain ⟨v305, e306, hf⟩ := pm_bd hf
      have K307 := pw_t (by decide) K0 (wfX8_truncated (pw_rf _) e306)
      cases hf
      exact K307
    · have hf := pm_ie hf c303
      obtain ⟨k308, hf⟩ := pm_if hf
      obtain ⟨v309, e310, hf⟩ := pm_bd hf
      have K311 := pw_t (by decide) K0 (wfX8_truncated (pw_rf _) e310)
      cases hf
      exact K311
  have hf := pm_ie hf c298
  by_cases c312 : p1 = 192
  · have hf := pm_it hf c312
    cases hf
    exact K0
  have hf := pm_ie hf c312
  by_cases c313 : p1 = 193
  · have hf := pm_it hf c313
    cases hf
    exact K0
  have hf := pm_ie hf c313
  by_cases c314 : p1 = 194
  · have hf := pm_it hf c314
    cases hf
    exact K0
  have hf := pm_ie hf c314
  by_cases c315 : p1 = 195
  · have hf := pm_it hf c315
    cases hf
    exact K0
  have hf := pm_ie hf c315
  by_cases c316 : p1 = 196
  · have hf := pm_it hf c316
    cases hf
    exact K0
  have hf := pm_ie hf c316
  obtain ⟨v317, e318, hf⟩ := pm_bd hf
  obtain ⟨v319, e320, hf⟩ := pm_bd hf
  by_cases c321 : v319 = 0
  · have hf := pm_it hf c321
    obtain ⟨k322, hf⟩ := pm_if hf
    obtain ⟨v323, e324, hf⟩ := pm_bd hf
    have K325 := pw_t (by decide) K0 (wfX8_truncated (pw_rf _) e324)
    cases hf
    exact K325
  · have hf := pm_ie hf c321
    obtain ⟨k326, hf⟩ := pm_if hf
    obtain ⟨v327, e328, hf⟩ := pm_bd hf
    have K329 := pw_t (by decide) K0 (wfX8_truncated (pw_rf _) e328)
    cases hf
    exact K329
abbrev WX9_begin : List Nat := [1152, 1153, 1154, 1155, 1156, 1157, 1162, 1164, 1168]
set_option maxHeartbeats 4000000 in
set_option maxRecDepth 100000 in
theorem wlX9_begin {h0 : pm_H} {r : pm_H} : ∀ n : Nat, (∀ (x0 : Nat) (x2 : Int32) (h : pm_H), pw_F WX9_begin h0 h → pm_iter sX9_begin n (x0, x2, h) = some r → pw_F WX9_begin h0 r) := by
  intro n
  induction n with
  | zero => exact fun _ _ _ _ hf => (by cases hf)
  | succ n ih =>
    refine fun x0 x2 h K0 hf => ?_
    obtain ⟨y, hf, hi⟩ := pm_iter_s hf
    have hf : tX9_begin_23 x0 x2 h = some y := hf
    unfold tX9_begin_23 at hf
    by_cases c6 : 8 ≤ x2
    · have hf := pm_it hf c6
      cases hf
      cases hi
      exact K0
    · have hf := pm_ie hf c6
      obtain ⟨k7, hf⟩ := pm_if hf
      by_cases c8 : (pm_I h x0 3) = 0
      · have hf := pm_it hf c8
        obtain ⟨v9, e10, hf⟩ := pm_bd hf
        have K11 := pw_t (by decide) K0 (wfX9_next (pw_rf _) e10)
        obtain ⟨u12, hf⟩ := pm_if hf
        by_cases c13 : v9.1 = (pm_beg.getD x2.toNatClampNeg 0)
        · have hf := pm_it hf c13
          obtain ⟨y14, e15, hf⟩ := pm_lt hf
          cases hf
          exact ih x0 y14 v9.2 K11  hi
        · have hf := pm_ie hf c13
          obtain ⟨k16, hf⟩ := pm_if hf
          obtain ⟨v17, e18, hf⟩ := pm_bd hf
          have K19 := pw_t (by decide) K11 (wfX9_fail (pw_rf _) e18)
          obtain ⟨y20, e21, hf⟩ := pm_lt hf
          cases hf
          exact ih x0 y20 v17 K19  hi
      · have hf := pm_ie hf c8
        cases hf
        cases hi
        exact K0
set_option maxHeartbeats 4000000 in
set_option maxRecDepth 100000 in
theorem wfX9_begin {h0 h : pm_H} (K0 : pw_F WX9_begin h0 h) {a0 : Nat} {p1 : Nat}  {r : pm_H} (hf : fX9_begin h a0 p1 = some r) : pw_F WX9_begin h0 r := by
  unfold fX9_begin at hf
  obtain ⟨k1, hf⟩ := pm_if hf
  obtain ⟨v2, e3, hf⟩ := pm_bd hf
  have K4 := pw_t (by decide) K0 (wfX9_open (pw_rf _) e3)
  obtain ⟨k5, hf⟩ := pm_if hf
  obtain ⟨n, hn⟩ := pm_lim_iter hf
  exact (wlX9_begin n) a0 0 (pm_setI (pm_setI (pm_setI v2 a0 5 (-1)) a0 12 0) a0 10 (-1)) (pw_sI (pw_sI (pw_sI K4 rfl k5 (by decide)) (pkI rfl) k5 (by decide)) (pkI (pkI rfl)) k5 (by decide))  hn
abbrev WX1_memoryAccess : List Nat := [2, 128, 129, 134, 4352]
set_option maxHeartbeats 4000000 in
set_option maxRecDepth 100000 in
theorem wfX1_memoryAccess_b27 {h0 h : pm_H} (K0 : pw_F WX1_memoryAccess h0 h) {x0 : Nat} {x1 : Int32} {s0 : Int32}  {r : pm_H} (hf : fX1_memoryAccess_b27 h x0 x1 s0 = some r) : pw_F WX1_memoryAccess h0 r := by
  unfold fX1_memoryAccess_b27 at hf
  obtain ⟨k9, hf⟩ := pm_if hf
  obtain ⟨v10, e11, hf⟩ := pm_bd hf
  obtain ⟨k12, hf⟩ := pm_if hf
  obtain ⟨v13, e14, hf⟩ := pm_bd hf
  by_cases c15 : v13 = 0
  · have hf := pm_it hf c15
    obtain ⟨v16, e17, hf⟩ := pm_bd hf
    have K18 := pw_t (by decide) K0 (wfX1_fail (pw_rf _) e17)
    cases hf
    exact K18
  · have hf := pm_ie hf c15
    by_cases c19 : s0 = 0
    · have hf := pm_it hf c19
      obtain ⟨v20, e21, hf⟩ := pm_bd hf
      have K22 := pw_t (by decide) K0 (wfX1_fail (pw_rf _) e21)
      cases hf
      exact K22
    · have hf := pm_ie hf c19
      by_cases c23 : x1 = 63
      · have hf := pm_it hf c23
        obtain ⟨v24, e25, hf⟩ := pm_bd hf
        have K26 := pw_t (by decide) K0 (wfX1_plain (pw_rf _) e25)
        cases hf
        exact K26
      · have hf := pm_ie hf c23
        by_cases c27 : x1 = 64
        · have hf := pm_it hf c27
          obtain ⟨v28, e29, hf⟩ := pm_bd hf
          have K30 := pw_t (by decide) K0 (wfX1_plain (pw_rf _) e29)
          cases hf
          exact K30
        · have hf := pm_ie hf c27
          by_cases c31 : 54 ≤ x1
          · have hf := pm_it hf c31
            obtain ⟨v32, e33, hf⟩ := pm_bd hf
            obtain ⟨v34, e35, hf⟩ := pm_bd hf
            have K36 := pw_t (by decide) K0 (wfX1_plain (pw_rf _) e35)
            cases hf
            exact K36
          · have hf := pm_ie hf c31
            obtain ⟨v37, e38, hf⟩ := pm_bd hf
            obtain ⟨v39, e40, hf⟩ := pm_bd hf
            have K41 := pw_t (by decide) K0 (wfX1_plain (pw_rf _) e40)
            cases hf
            exact K41
set_option maxHeartbeats 4000000 in
set_option maxRecDepth 100000 in
theorem wfX1_memoryAccess_b22 {h0 h : pm_H} (K0 : pw_F WX1_memoryAccess h0 h) {x0 : Nat} {x1 : Int32}  {r : pm_H} (hf : fX1_memoryAccess_b22 h x0 x1 = some r) : pw_F WX1_memoryAccess h0 r := by
  unfold fX1_memoryAccess_b22 at hf
  exact wfX1_memoryAccess_b27 K0  hf
set_option maxHeartbeats 4000000 in
set_option maxRecDepth 100000 in
theorem wfX1_memoryAccess {h0 h : pm_H} (K0 : pw_F WX1_memoryAccess h0 h) {a0 : Nat} {p1 : Int32}  {r : pm_H} (hf : fX1_memoryAccess h a0 p1 = some r) : pw_F WX1_memoryAccess h0 r := by
  unfold fX1_memoryAccess at hf
  by_cases c1 : 63 ≤ p1
  · have hf := pm_it hf c1
    exact wfX1_memoryAccess_b22 K0  hf
  · have hf := pm_ie hf c1
    obtain ⟨k2, hf⟩ := pm_if hf
    obtain ⟨v3, e4, hf⟩ := pm_bd hf
    obtain ⟨k5, hf⟩ := pm_if hf
    obtain ⟨v6, e7, hf⟩ := pm_bd hf
    by_cases c8 : v6.toInt64 < (pm_L h v3 8)
    · have hf := pm_it hf c8
      exact wfX1_memoryAccess_b27 K0  hf
    · have hf := pm_ie hf c8
      exact wfX1_memoryAccess_b22 K0  hf
abbrev WX1_operator : List Nat := [2, 128, 129, 134, 4352]
set_option maxHeartbeats 4000000 in
set_option maxRecDepth 100000 in
theorem wfX1_operator {h0 h : pm_H} (K0 : pw_F WX1_operator h0 h) {a0 : Nat} {p1 : Int32}  {r : pm_H} (hf : fX1_operator h a0 p1 = some r) : pw_F WX1_operator h0 r := by
  unfold fX1_operator at hf
  obtain ⟨v1, e2, hf⟩ := pm_bd hf
  obtain ⟨y3, e4, hf⟩ := pm_lt hf
  obtain ⟨v5, e6, hf⟩ := pm_lt hf
  by_cases c7 : v5 = 0
  · have hf := pm_it hf c7
    obtain ⟨v8, e9, hf⟩ := pm_bd hf
    obtain ⟨k10, hf⟩ := pm_if hf
    obtain ⟨v11, e12, hf⟩ := pm_bd hf
    have K13 := pw_t (by decide) K0 (wfX1_plain (pw_rf _) e12)
    cases hf
    exact K13
  · have hf := pm_ie hf c7
    obtain ⟨v14, e15, hf⟩ := pm_bd hf
    obtain ⟨k16, hf⟩ := pm_if hf
    obtain ⟨v17, e18, hf⟩ := pm_bd hf
    have K19 := pw_t (by decide) K0 (wfX1_plain (pw_rf _) e18)
    cases hf
    exact K19
