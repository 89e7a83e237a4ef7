set_option maxHeartbeats 4000000 in
set_option maxRecDepth 100000 in
theorem rgX1_callByTable_b94 {A : Nat → Prop} {h0 h : pm_H} (K0 : pr_F A h0 h) {x0 : Nat} {s0 : Nat} (Hx0 : A x0) (Hs0 : A s0) {r : pm_H} (hf : fX1_callByTable_b94 h x0 s0 = some r) : pr_F A h0 r := by
  unfold fX1_callByTable_b94 at hf
  obtain ⟨k36, hf⟩ := pm_if hf
  obtain ⟨v37, e38, hf⟩ := pm_bd hf
  have K39 := rgX1_take K0 Hx0 e38
  obtain ⟨k40, hf⟩ := pm_if hf
  obtain ⟨v41, e42, hf⟩ := pm_bd hf
  have K43 := rgX1_takeParameters K39 Hx0 Hs0 e42
  obtain ⟨k44, hf⟩ := pm_if hf
  obtain ⟨v45, e46, hf⟩ := pm_bd hf
  have K47 := rgX1_putResults K43 Hx0 Hs0 e46
  obtain ⟨k48, hf⟩ := pm_if hf
  obtain ⟨v49, e50, hf⟩ := pm_bd hf
  obtain ⟨k51, hf⟩ := pm_if hf
  obtain ⟨v52, e53, hf⟩ := pm_bd hf
  obtain ⟨v54, e55, hf⟩ := pm_bd hf
  have K56 := rgX1_emit K47 Hx0 e55
  have hf := Option.some.inj hf
  subst hf
  exact K56
set_option maxHeartbeats 4000000 in
set_option maxRecDepth 100000 in
theorem rgX1_callByTable_b43 {A : Nat → Prop} {h0 h : pm_H} (K0 : pr_F A h0 h) {x0 : Nat} {s0 : Int32} (Hx0 : A x0) {r : pm_H} (hf : fX1_callByTable_b43 h x0 s0 = some r) : pr_F A h0 r := by
  unfold fX1_callByTable_b43 at hf
  by_cases c15 : s0 = 0
  · have hf := pm_it hf c15
    obtain ⟨k16, hf⟩ := pm_if hf
    obtain ⟨v17, e18, hf⟩ := pm_bd hf
    have K19 := rgX1_fail K0 Hx0 e18
    have hf := Option.some.inj hf
    subst hf
    exact K19
  · have hf := pm_ie hf c15
    obtain ⟨k20, hf⟩ := pm_if hf
    obtain ⟨v21, e22, hf⟩ := pm_bd hf
    obtain ⟨v23, e24, hf⟩ := pm_bd hf
    obtain ⟨k25, hf⟩ := pm_if hf
    obtain ⟨k26, hf⟩ := pm_if hf
    obtain ⟨v27, e28, hf⟩ := pm_bd hf
    by_cases c29 : v27 = 112
    · have hf := pm_it hf c29
      obtain ⟨v30, e31, hf⟩ := pm_bd hf
      have K32 := rgX7_shape K0 (pr_c K0 Hx0 e22) e31
      exact rgX1_callByTable_b94 K32.1 Hx0 K32.2 hf
    · have hf := pm_ie hf c29
      obtain ⟨v33, e34, hf⟩ := pm_bd hf
      have K35 := rgX1_fail K0 Hx0 e34
      have hf := Option.some.inj hf
      subst hf
      exact K35
set_option maxHeartbeats 4000000 in
set_option maxRecDepth 100000 in
theorem rgX1_callByTable_b42 {A : Nat → Prop} {h0 h : pm_H} (K0 : pr_F A h0 h) {x0 : Nat} (Hx0 : A x0) {r : pm_H} (hf : fX1_callByTable_b42 h x0 = some r) : pr_F A h0 r := by
  unfold fX1_callByTable_b42 at hf
  exact rgX1_callByTable_b43 K0 Hx0 hf
set_option maxHeartbeats 4000000 in
set_option maxRecDepth 100000 in
theorem rgX1_callByTable_b0 {A : Nat → Prop} {h0 h : pm_H} (K0 : pr_F A h0 h) {x0 : Nat} (Hx0 : A x0) {r : pm_H} (hf : fX1_callByTable_b0 h x0 = some r) : pr_F A h0 r := by
  unfold fX1_callByTable_b0 at hf
  obtain ⟨k1, hf⟩ := pm_if hf
  obtain ⟨v2, e3, hf⟩ := pm_bd hf
  obtain ⟨k4, hf⟩ := pm_if hf
  obtain ⟨v5, e6, hf⟩ := pm_bd hf
  obtain ⟨k7, hf⟩ := pm_if hf
  obtain ⟨v8, e9, hf⟩ := pm_bd hf
  obtain ⟨k10, hf⟩ := pm_if hf
  by_cases c11 : ((Int32.ofNat (pm_ln h v8)).toInt64) ≤ (pm_L h v2 8)
  · have hf := pm_it hf c11
    exact rgX1_callByTable_b42 K0 Hx0 hf
  · have hf := pm_ie hf c11
    obtain ⟨v12, e13, hf⟩ := pm_bd hf
    by_cases c14 : v12 = 0
    · have hf := pm_it hf c14
      exact rgX1_callByTable_b42 K0 Hx0 hf
    · have hf := pm_ie hf c14
      exact rgX1_callByTable_b43 K0 Hx0 hf
set_option maxHeartbeats 4000000 in
set_option maxRecDepth 100000 in
theorem rgX1_callByTable {A : Nat → Prop} {h0 h : pm_H} (K0 : pr_F A h0 h) {a0 : Nat} (Ha0 : A a0) {r : pm_H} (hf : fX1_callByTable h a0 = some r) : pr_F A h0 r := by
  unfold fX1_callByTable at hf
  exact rgX1_callByTable_b0 K0 Ha0 hf
set_option maxHeartbeats 4000000 in
set_option maxRecDepth 100000 in
theorem rgX1_callDirectly_b40 {A : Nat → Prop} {h0 h : pm_H} (K0 : pr_F A h0 h) {x0 : Nat} {s0 : Nat} (Hx0 : A x0) (Hs0 : A s0) {r : pm_H} (hf : fX1_callDirectly_b40 h x0 s0 = some r) : pr_F A h0 r := by
  unfold fX1_callDirectly_b40 at hf
  obtain ⟨k17, hf⟩ := pm_if hf
  obtain ⟨v18, e19, hf⟩ := pm_bd hf
  have K20 := rgX1_takeParameters K0 Hx0 Hs0 e19
  obtain ⟨k21, hf⟩ := pm_if hf
  obtain ⟨v22, e23, hf⟩ := pm_bd hf
  have K24 := rgX1_putResults K20 Hx0 Hs0 e23
  obtain ⟨k25, hf⟩ := pm_if hf
  obtain ⟨v26, e27, hf⟩ := pm_bd hf
  obtain ⟨k28, hf⟩ := pm_if hf
  obtain ⟨v29, e30, hf⟩ := pm_bd hf
  obtain ⟨v31, e32, hf⟩ := pm_bd hf
  have K33 := rgX1_emit K24 Hx0 e32
  have hf := Option.some.inj hf
  subst hf
  exact K33
set_option maxHeartbeats 4000000 in
set_option maxRecDepth 100000 in
theorem rgX1_callDirectly_b0 {A : Nat → Prop} {h0 h : pm_H} (K0 : pr_F A h0 h) {x0 : Nat} (Hx0 : A x0) {r : pm_H} (hf : fX1_callDirectly_b0 h x0 = some r) : pr_F A h0 r := by
  unfold fX1_callDirectly_b0 at hf
  obtain ⟨k1, hf⟩ := pm_if hf
  obtain ⟨v2, e3, hf⟩ := pm_bd hf
  obtain ⟨v4, e5, hf⟩ := pm_bd hf
  obtain ⟨k6, hf⟩ := pm_if hf
  obtain ⟨k7, hf⟩ := pm_if hf
  obtain ⟨v8, e9, hf⟩ := pm_bd hf
  by_cases c10 : v8 = 0
  · have hf := pm_it hf c10
    obtain ⟨v11, e12, hf⟩ := pm_bd hf
    have K13 := rgX1_fail K0 Hx0 e12
    have hf := Option.some.inj hf
    subst hf
    exact K13
  · have hf := pm_ie hf c10
    obtain ⟨v14, e15, hf⟩ := pm_bd hf
    have K16 := rgX7_shapeOfFunction K0 (pr_c K0 Hx0 e3) e15
    exact rgX1_callDirectly_b40 K16.1 Hx0 K16.2 hf
set_option maxHeartbeats 4000000 in
set_option maxRecDepth 100000 in
theorem rgX1_callDirectly {A : Nat → Prop} {h0 h : pm_H} (K0 : pr_F A h0 h) {a0 : Nat} (Ha0 : A a0) {r : pm_H} (hf : fX1_callDirectly h a0 = some r) : pr_F A h0 r := by
  unfold fX1_callDirectly at hf
  exact rgX1_callDirectly_b0 K0 Ha0 hf
set_option maxHeartbeats 4000000 in
set_option maxRecDepth 100000 in
theorem rlX1_makeBodies {A : Nat → Prop} {h0 : pm_H} {r : pm_H} : ∀ n : Nat, (∀ (x0 : Nat) (h : pm_H), pr_F A h0 h → A x0 → pm_iter sX1_makeBodies n (.inl (x0, h)) = some r → pr_F A h0 r) ∧ (∀ (x0 : Nat) (x1 : Int32) (s0 : Nat) (s1 : Nat) (h : pm_H), pr_F A h0 h → A x0 → A s0 → A s1 → pm_iter sX1_makeBodies n (.inr (.inl (x0, x1, s0, s1, h))) = some r → pr_F A h0 r) ∧ (∀ (x0 : Nat) (x1 : Int32) (x2 : Int32) (h : pm_H), pr_F A h0 h → A x0 → pm_iter sX1_makeBodies n (.inr (.inr (.inl (x0, x1, x2, h)))) = some r → pr_F A h0 r) ∧ (∀ (x0 : Nat) (x1 : Int32) (x2 : Int32) (x3 : Int32) (s0 : Nat) (s1 : Int32) (s2 : Nat) (h : pm_H), pr_F A h0 h → A x0 → A s0 → A s2 → pm_iter sX1_makeBodies n (.inr (.inr (.inr (.inl (x0, x1, x2, x3, s0, s1, s2, h))))) = some r → pr_F A h0 r) ∧ (∀ (x0 : Nat) (x1 : Int32) (x2 : Int32) (x3 : Int32) (s0 : Nat) (s1 : Nat) (s2 : Nat) (s3 : Int32) (s4 : Nat) (h : pm_H), pr_F A h0 h → A x0 → A s0 → A s1 → A s2 → A s4 → pm_iter sX1_makeBodies n (.inr (.inr (.inr (.inr (.inl (x0, x1, x2, x3, s0, s1, s2, s3, s4, h)))))) = some r → pr_F A h0 r) ∧ (∀ (x0 : Nat) (x1 : Int32) (x2 : Int32) (s0 : Nat) (s1 : Int32) (s2 : Nat) (h : pm_H), pr_F A h0 h → A x0 → A s0 → A s2 → pm_iter sX1_makeBodies n (.inr (.inr (.inr (.inr (.inr (x0, x1, x2, s0, s1, s2, h)))))) = some r → pr_F A h0 r) := by
  intro n
  induction n with
  | zero => exact ⟨fun _ _ _ _ hf => (by cases hf), fun _ _ _ _ _ _ _ _ _ hf => (by cases hf), fun _ _ _ _ _ _ hf => (by cases hf), fun _ _ _ _ _ _ _ _ _ _ _ _ hf => (by cases hf), fun _ _ _ _ _ _ _ _ _ _ _ _ _ _ _ _ hf => (by cases hf), fun _ _ _ _ _ _ _ _ _ _ _ hf => (by cases hf)⟩
  | succ n ih =>
    refine ⟨fun x0 h K0 Hx0 hf => ?_, ?_⟩
    · obtain ⟨y, hf, hi⟩ := pm_iter_s hf
      have hf : tX1_makeBodies_0 x0 h = some y := hf
      unfold tX1_makeBodies_0 at hf
      obtain ⟨k1, hf⟩ := pm_if hf
      obtain ⟨v2, e3, hf⟩ := pm_bd hf
      obtain ⟨k4, hf⟩ := pm_if hf
      obtain ⟨v5, e6, hf⟩ := pm_bd hf
      obtain ⟨v7, e8, hf⟩ := pm_bd hf
      obtain ⟨k9, hf⟩ := pm_if hf
      obtain ⟨y10, e11, hf⟩ := pm_lt hf
      obtain ⟨u12, hf⟩ := pm_if hf
      cases hf
      exact ih.2.1 x0 v5 (pm_sz h) v2 (pm_new h 38 y10.toNatClampNeg) (pr_new K0) Hx0 (pr_n K0) (pr_c K0 Hx0 e3) hi
    refine ⟨fun x0 x1 s0 s1 h K0 Hx0 Hs0 Hs1 hf => ?_, ?_⟩
    · obtain ⟨y, hf, hi⟩ := pm_iter_s hf
      have hf : tX1_makeBodies_26 x0 x1 s0 s1 h = some y := hf
      unfold tX1_makeBodies_26 at hf
      obtain ⟨k13, hf⟩ := pm_if hf
      cases hf
      exact ih.2.2.1 x0 x1 0 (pm_setR h s1 12 (some s0)) (pr_sR K0 Hs1 Hs0) Hx0 hi
    refine ⟨fun x0 x1 x2 h K0 Hx0 hf => ?_, ?_⟩
    · obtain ⟨y, hf, hi⟩ := pm_iter_s hf
      have hf : tX1_makeBodies_31 x0 x1 x2 h = some y := hf
      unfold tX1_makeBodies_31 at hf
      obtain ⟨k14, hf⟩ := pm_if hf
      obtain ⟨v15, e16, hf⟩ := pm_bd hf
      obtain ⟨k17, hf⟩ := pm_if hf
      obtain ⟨v18, e19, hf⟩ := pm_bd hf
      obtain ⟨k20, hf⟩ := pm_if hf
      by_cases c21 : (Int32.ofNat (pm_ln h v18)) ≤ x2
      · have hf := pm_it hf c21
        have hf := Option.some.inj hf
        subst hf
        have hi := Option.some.inj (show some _ = some r from hi)
        subst hi
        exact K0
      · have hf := pm_ie hf c21
        obtain ⟨v22, e23, hf⟩ := pm_bd hf
        obtain ⟨v24, e25, hf⟩ := pm_bd hf
        obtain ⟨v26, e27, hf⟩ := pm_bd hf
        obtain ⟨y28, e29, hf⟩ := pm_lt hf
        cases hf
        exact ih.2.2.2.1 x0 x1 x2 y28 (pm_sz h) x2 v18 (pm_new h 0 0) (pr_new K0) Hx0 (pr_n K0) (pr_c K0 (pr_c K0 Hx0 e16) e19) hi
    refine ⟨fun x0 x1 x2 x3 s0 s1 s2 h K0 Hx0 Hs0 Hs2 hf => ?_, ?_⟩
    · obtain ⟨y, hf, hi⟩ := pm_iter_s hf
      have hf : tX1_makeBodies_84 x0 x1 x2 x3 s0 s1 s2 h = some y := hf
      unfold tX1_makeBodies_84 at hf
      obtain ⟨k30, hf⟩ := pm_if hf
      obtain ⟨v31, e32, hf⟩ := pm_bd hf
      obtain ⟨k33, hf⟩ := pm_if hf
      obtain ⟨v34, e35, hf⟩ := pm_bd hf
      have K36 := rgX7_shapeOfFunction K0 (pr_c K0 Hx0 e32) e35
      cases hf
      exact ih.2.2.2.2.1 x0 x1 x2 x3 v34.1 s0 s0 s1 s2 v34.2 K36.1 Hx0 K36.2 Hs0 Hs0 Hs2 hi
    refine ⟨fun x0 x1 x2 x3 s0 s1 s2 s3 s4 h K0 Hx0 Hs0 Hs1 Hs2 Hs4 hf => ?_, ?_⟩
    · obtain ⟨y, hf, hi⟩ := pm_iter_s hf
      have hf : tX1_makeBodies_95 x0 x1 x2 x3 s0 s1 s2 s3 s4 h = some y := hf
      unfold tX1_makeBodies_95 at hf
      obtain ⟨v37, e38, hf⟩ := pm_bd hf
      have K39 := rgX0_init K0 Hs1 Hs0 e38
      cases hf
      exact ih.2.2.2.2.2 x0 x1 x2 s2 s3 s4 v37 K39 Hx0 Hs2 Hs4 hi
    refine fun x0 x1 x2 s0 s1 s2 h K0 Hx0 Hs0 Hs2 hf => ?_
    obtain ⟨y, hf, hi⟩ := pm_iter_s hf
    have hf : tX1_makeBodies_99 x0 x1 x2 s0 s1 s2 h = some y := hf
    unfold tX1_makeBodies_99 at hf
    obtain ⟨k40, hf⟩ := pm_if hf
    obtain ⟨k41, hf⟩ := pm_if hf
    obtain ⟨u42, hf⟩ := pm_if hf
    obtain ⟨y43, e44, hf⟩ := pm_lt hf
    cases hf
    exact ih.2.2.1 x0 x1 y43 (pm_setR h s2 s1.toNatClampNeg (some s0)) (pr_sR K0 Hs2 Hs0) Hx0 hi
set_option maxHeartbeats 4000000 in
set_option maxRecDepth 100000 in
theorem rgX1_makeBodies {A : Nat → Prop} {h0 h : pm_H} (K0 : pr_F A h0 h) {a0 : Nat} (Ha0 : A a0) {r : pm_H} (hf : fX1_makeBodies h a0 = some r) : pr_F A h0 r := by
  unfold fX1_makeBodies at hf
  obtain ⟨n, hn⟩ := pm_lim_iter hf
  exact (rlX1_makeBodies n).1 a0 h K0 Ha0 hn
set_option maxHeartbeats 4000000 in
set_option maxRecDepth 100000 in
theorem rgX1_shapeOfLabel_b19 {A : Nat → Prop} {h0 h : pm_H} (K0 : pr_F A h0 h) {s0 : Nat} (Hs0 : A s0) {r : (Nat × pm_H)} (hf : fX1_shapeOfLabel_b19 h s0 = some r) : pr_F A h0 r.2 ∧ A r.1 := by
  unfold fX1_shapeOfLabel_b19 at hf
  have hf := Option.some.inj hf
  subst hf
  exact ⟨K0, Hs0⟩
set_option maxHeartbeats 4000000 in
set_option maxRecDepth 100000 in
theorem rgX1_shapeOfLabel_b0 {A : Nat → Prop} {h0 h : pm_H} (K0 : pr_F A h0 h) {x0 : Nat} {x1 : Int32} (Hx0 : A x0) {r : (Nat × pm_H)} (hf : fX1_shapeOfLabel_b0 h x0 x1 = some r) : pr_F A h0 r.2 ∧ A r.1 := by
  unfold fX1_shapeOfLabel_b0 at hf
  obtain ⟨k1, hf⟩ := pm_if hf
  obtain ⟨v2, e3, hf⟩ := pm_bd hf
  by_cases c4 : v2 < 0
  · have hf := pm_it hf c4
    by_cases c5 : v2 < (-128)
    · have hf := pm_it hf c5
      obtain ⟨v6, e7, hf⟩ := pm_bd hf
      obtain ⟨k8, hf⟩ := pm_if hf
      obtain ⟨u9, hf⟩ := pm_if hf
      obtain ⟨v10, e11, hf⟩ := pm_bd hf
      have hf := Option.some.inj hf
      subst hf
      exact ⟨K0, (pr_c K0 (pr_c K0 Hx0 e7) e11)⟩
    · have hf := pm_ie hf c5
      obtain ⟨v12, e13, hf⟩ := pm_bd hf
      obtain ⟨y14, e15, hf⟩ := pm_lt hf
      obtain ⟨k16, hf⟩ := pm_if hf
      obtain ⟨u17, hf⟩ := pm_if hf
      obtain ⟨v18, e19, hf⟩ := pm_bd hf
      have hf := Option.some.inj hf
      subst hf
      exact ⟨K0, (pr_c K0 (pr_c K0 Hx0 e13) e19)⟩
  · have hf := pm_ie hf c4
    obtain ⟨v20, e21, hf⟩ := pm_bd hf
    obtain ⟨k22, hf⟩ := pm_if hf
    obtain ⟨v23, e24, hf⟩ := pm_bd hf
    have K25 := rgX7_shape K0 (pr_c K0 Hx0 e21) e24
    exact rgX1_shapeOfLabel_b19 K25.1 K25.2 hf
set_option maxHeartbeats 4000000 in
set_option maxRecDepth 100000 in
theorem rgX1_shapeOfLabel {A : Nat → Prop} {h0 h : pm_H} (K0 : pr_F A h0 h) {a0 : Nat} {p1 : Int32} (Ha0 : A a0) {r : (Nat × pm_H)} (hf : fX1_shapeOfLabel h a0 p1 = some r) : pr_F A h0 r.2 ∧ A r.1 := by
  unfold fX1_shapeOfLabel at hf
  exact rgX1_shapeOfLabel_b0 K0 Ha0 hf
set_option maxHeartbeats 4000000 in
set_option maxRecDepth 100000 in
theorem rgX1_startIsRight_b58 {A : Nat → Prop} {h0 h : pm_H} (K0 : pr_F A h0 h) {x0 : Nat} {s0 : Nat} (Hx0 : A x0) (Hs0 : A s0) {r : pm_H} (hf : fX1_startIsRight_b58 h x0 s0 = some r) : pr_F A h0 r := by
  unfold fX1_startIsRight_b58 at hf
  obtain ⟨v19, e20, hf⟩ := pm_bd hf
  by_cases c21 : v19 = 0
  · have hf := pm_it hf c21
    obtain ⟨v22, e23, hf⟩ := pm_bd hf
    by_cases c24 : v22 = 0
    · have hf := pm_it hf c24
      have hf := Option.some.inj hf
      subst hf
      exact K0
    · have hf := pm_ie hf c24
      obtain ⟨k25, hf⟩ := pm_if hf
      obtain ⟨v26, e27, hf⟩ := pm_bd hf
      have K28 := rgX1_failSection K0 Hx0 e27
      have hf := Option.some.inj hf
      subst hf
      exact K28
  · have hf := pm_ie hf c21
    obtain ⟨k29, hf⟩ := pm_if hf
    obtain ⟨v30, e31, hf⟩ := pm_bd hf
    have K32 := rgX1_failSection K0 Hx0 e31
    have hf := Option.some.inj hf
    subst hf
    exact K32
set_option maxHeartbeats 4000000 in
set_option maxRecDepth 100000 in
theorem rgX1_startIsRight_b0 {A : Nat → Prop} {h0 h : pm_H} (K0 : pr_F A h0 h) {x0 : Nat} (Hx0 : A x0) {r : pm_H} (hf : fX1_startIsRight_b0 h x0 = some r) : pr_F A h0 r := by
  unfold fX1_startIsRight_b0 at hf
  obtain ⟨k1, hf⟩ := pm_if hf
  obtain ⟨v2, e3, hf⟩ := pm_bd hf
  obtain ⟨k4, hf⟩ := pm_if hf
  obtain ⟨v5, e6, hf⟩ := pm_bd hf
  obtain ⟨v7, e8, hf⟩ := pm_bd hf
  by_cases c9 : 0 ≤ v7
  · have hf := pm_it hf c9
    obtain ⟨v10, e11, hf⟩ := pm_bd hf
    by_cases c12 : v10 = 0
    · have hf := pm_it hf c12
      obtain ⟨v13, e14, hf⟩ := pm_bd hf
      have K15 := rgX1_failSection K0 Hx0 e14
      have hf := Option.some.inj hf
      subst hf
      exact K15
    · have hf := pm_ie hf c12
      obtain ⟨v16, e17, hf⟩ := pm_bd hf
      have K18 := rgX7_shapeOfFunction K0 (pr_c K0 Hx0 e3) e17
      exact rgX1_startIsRight_b58 K18.1 Hx0 K18.2 hf
  · have hf := pm_ie hf c9
    have hf := Option.some.inj hf
    subst hf
    exact K0
set_option maxHeartbeats 4000000 in
set_option maxRecDepth 100000 in
theorem rgX1_startIsRight {A : Nat → Prop} {h0 h : pm_H} (K0 : pr_F A h0 h) {a0 : Nat} (Ha0 : A a0) {r : pm_H} (hf : fX1_startIsRight h a0 = some r) : pr_F A h0 r := by
  unfold fX1_startIsRight at hf
  exact rgX1_startIsRight_b0 K0 Ha0 hf
set_option maxHeartbeats 4000000 in
set_option maxRecDepth 100000 in
theorem rgX1_takeAllResults_b5 {A : Nat → Prop} {h0 h : pm_H} (K0 : pr_F A h0 h) {x0 : Nat} {x1 : Int32} {s0 : Nat} (Hx0 : A x0) (Hs0 : A s0) {r : pm_H} (hf : fX1_takeAllResults_b5 h x0 x1 s0 = some r) : pr_F A h0 r := by
  unfold fX1_takeAllResults_b5 at hf
  obtain ⟨v5, e6, hf⟩ := pm_bd hf
  obtain ⟨v7, e8, hf⟩ := pm_bd hf
  obtain ⟨k9, hf⟩ := pm_if hf
  obtain ⟨v10, e11, hf⟩ := pm_bd hf
  have K12 := rgX1_takeTypes K0 Hx0 Hs0 e11
  obtain ⟨k13, hf⟩ := pm_if hf
  obtain ⟨v14, e15, hf⟩ := pm_bd hf
  by_cases c16 : (pm_I v10 x0 6) = v14
  · have hf := pm_it hf c16
    have hf := Option.some.inj hf
    subst hf
    exact K12
  · have hf := pm_ie hf c16
    obtain ⟨v17, e18, hf⟩ := pm_bd hf
    have K19 := rgX1_fail K12 Hx0 e18
    have hf := Option.some.inj hf
    subst hf
    exact K19
set_option maxHeartbeats 4000000 in
set_option maxRecDepth 100000 in
theorem rgX1_takeAllResults_b0 {A : Nat → Prop} {h0 h : pm_H} (K0 : pr_F A h0 h) {x0 : Nat} {x1 : Int32} (Hx0 : A x0) {r : pm_H} (hf : fX1_takeAllResults_b0 h x0 x1 = some r) : pr_F A h0 r := by
  unfold fX1_takeAllResults_b0 at hf
  obtain ⟨k1, hf⟩ := pm_if hf
  obtain ⟨v2, e3, hf⟩ := pm_bd hf
  have K4 := rgX1_shapeOfLabel K0 Hx0 e3
  exact rgX1_takeAllResults_b5 K4.1 Hx0 K4.2 hf
set_option maxHeartbeats 4000000 in
set_option maxRecDepth 100000 in
theorem rgX1_takeAllResults {A : Nat → Prop} {h0 h : pm_H} (K0 : pr_F A h0 h) {a0 : Nat} {p1 : Int32} (Ha0 : A a0) {r : pm_H} (hf : fX1_takeAllResults h a0 p1 = some r) : pr_F A h0 r := by
  unfold fX1_takeAllResults at hf
  exact rgX1_takeAllResults_b0 K0 Ha0 hf
set_option maxHeartbeats 4000000 in
set_option maxRecDepth 100000 in
theorem rgX1_wantedCount_b5 {A : Nat → Prop} {h0 h : pm_H} (K0 : pr_F A h0 h) {x0 : Nat} {x1 : Int32} {s0 : Nat} (Hx0 : A x0) (Hs0 : A s0) {r : (Int32 × pm_H)} (hf : fX1_wantedCount_b5 h x0 x1 s0 = some r) : pr_F A h0 r.2 := by
  unfold fX1_wantedCount_b5 at hf
  obtain ⟨k5, hf⟩ := pm_if hf
  obtain ⟨v6, e7, hf⟩ := pm_bd hf
  by_cases c8 : v6 = 0
  · have hf := pm_it hf c8
    obtain ⟨v9, e10, hf⟩ := pm_bd hf
    have hf := Option.some.inj hf
    subst hf
    exact K0
  · have hf := pm_ie hf c8
    obtain ⟨v11, e12, hf⟩ := pm_bd hf
    have hf := Option.some.inj hf
    subst hf
    exact K0
set_option maxHeartbeats 4000000 in
set_option maxRecDepth 100000 in
theorem rgX1_wantedCount_b0 {A : Nat → Prop} {h0 h : pm_H} (K0 : pr_F A h0 h) {x0 : Nat} {x1 : Int32} (Hx0 : A x0) {r : (Int32 × pm_H)} (hf : fX1_wantedCount_b0 h x0 x1 = some r) : pr_F A h0 r.2 := by
  unfold fX1_wantedCount_b0 at hf
  obtain ⟨k1, hf⟩ := pm_if hf
  obtain ⟨v2, e3, hf⟩ := pm_bd hf
  have K4 := rgX1_shapeOfLabel K0 Hx0 e3
  exact rgX1_wantedCount_b5 K4.1 Hx0 K4.2 hf
set_option maxHeartbeats 4000000 in
set_option maxRecDepth 100000 in
theorem rgX1_wantedCount {A : Nat → Prop} {h0 h : pm_H} (K0 : pr_F A h0 h) {a0 : Nat} {p1 : Int32} (Ha0 : A a0) {r : (Int32 × pm_H)} (hf : fX1_wantedCount h a0 p1 = some r) : pr_F A h0 r.2 := by
  unfold fX1_wantedCount at hf
  exact rgX1_wantedCount_b0 K0 Ha0 hf
set_option maxHeartbeats 4000000 in
set_option maxRecDepth 100000 in
theorem rgX1_wantedFrom_b18 {A : Nat → Prop} {h0 h : pm_H} (K0 : pr_F A h0 h) {s0 : Nat} {s1 : Int32} (Hs0 : A s0) {r : (Int32 × pm_H)} (hf : fX1_wantedFrom_b18 h s0 s1 = some r) : pr_F A h0 r.2 := by
  unfold fX1_wantedFrom_b18 at hf
  obtain ⟨v8, e9, hf⟩ := pm_bd hf
  have hf := Option.some.inj hf
  subst hf
  exact K0
set_option maxHeartbeats 4000000 in
set_option maxRecDepth 100000 in
theorem rgX1_wantedFrom_b0 {A : Nat → Prop} {h0 h : pm_H} (K0 : pr_F A h0 h) {x0 : Nat} {x1 : Int32} (Hx0 : A x0) {r : (Int32 × pm_H)} (hf : fX1_wantedFrom_b0 h x0 x1 = some r) : pr_F A h0 r.2 := by
  unfold fX1_wantedFrom_b0 at hf
  obtain ⟨k1, hf⟩ := pm_if hf
  obtain ⟨v2, e3, hf⟩ := pm_bd hf
  by_cases c4 : v2 = 0
  · have hf := pm_it hf c4
    obtain ⟨v5, e6, hf⟩ := pm_bd hf
    have K7 := rgX1_shapeOfLabel K0 Hx0 e6
    exact rgX1_wantedFrom_b18 K7.1 K7.2 hf
  · have hf := pm_ie hf c4
    have hf := Option.some.inj hf
    subst hf
    exact K0
set_option maxHeartbeats 4000000 in
set_option maxRecDepth 100000 in
theorem rgX1_wantedFrom {A : Nat → Prop} {h0 h : pm_H} (K0 : pr_F A h0 h) {a0 : Nat} {p1 : Int32} (Ha0 : A a0) {r : (Int32 × pm_H)} (hf : fX1_wantedFrom h a0 p1 = some r) : pr_F A h0 r.2 := by
  unfold fX1_wantedFrom at hf
  exact rgX1_wantedFrom_b0 K0 Ha0 hf
set_option maxHeartbeats 4000000 in
set_option maxRecDepth 100000 in
theorem rgX5_callByTable_b92 {A : Nat → Prop} {h0 h : pm_H} (K0 : pr_F A h0 h) {x0 : Nat} {x5 : Int32} {x7 : Int32} {s0 : Nat} {s1 : Nat} (Hx0 : A x0) (Hs0 : A s0) (Hs1 : A s1) {r : pm_H} (hf : fX5_callByTable_b92 h x0 x5 x7 s0 s1 = some r) : pr_F A h0 r := by
  unfold fX5_callByTable_b92 at hf
  obtain ⟨v39, e40, hf⟩ := pm_bd hf
  by_cases c41 : v39 = 0
  · have hf := pm_it hf c41
    obtain ⟨k42, hf⟩ := pm_if hf
    obtain ⟨v43, e44, hf⟩ := pm_bd hf
    have K45 := rgX5_fail K0 Hx0 e44
    have hf := Option.some.inj hf
    subst hf
    exact K45
  · have hf := pm_ie hf c41
    obtain ⟨k46, hf⟩ := pm_if hf
    obtain ⟨v47, e48, hf⟩ := pm_bd hf
    have K49 := rgX5_enter K0 Hx0 e48
    have hf := Option.some.inj hf
    subst hf
    exact K49
set_option maxHeartbeats 4000000 in
set_option maxRecDepth 100000 in
theorem rgX5_callByTable_b0 {A : Nat → Prop} {h0 h : pm_H} (K0 : pr_F A h0 h) {x0 : Nat} {x1 : Int32} {x2 : Int32} {x3 : Int64} {x5 : Int32} (Hx0 : A x0) {r : pm_H} (hf : fX5_callByTable_b0 h x0 x1 x2 x3 x5 = some r) : pr_F A h0 r := by
  unfold fX5_callByTable_b0 at hf
  obtain ⟨k1, hf⟩ := pm_if hf
  obtain ⟨v2, e3, hf⟩ := pm_bd hf
  obtain ⟨k4, hf⟩ := pm_if hf
  obtain ⟨v5, e6, hf⟩ := pm_bd hf
  obtain ⟨k7, hf⟩ := pm_if hf
  obtain ⟨v8, e9, hf⟩ := pm_bd hf
  obtain ⟨v10, e11, hf⟩ := pm_bd hf
  obtain ⟨v12, e13, hf⟩ := pm_bd hf
  obtain ⟨k14, hf⟩ := pm_if hf
  obtain ⟨v15, e16, hf⟩ := pm_bd hf
  obtain ⟨k17, hf⟩ := pm_if hf
  obtain ⟨v18, e19, hf⟩ := pm_bd hf
  by_cases c20 : v18 = 0
  · have hf := pm_it hf c20
    obtain ⟨v21, e22, hf⟩ := pm_bd hf
    have K23 := rgX5_fail K0 Hx0 e22
    have hf := Option.some.inj hf
    subst hf
    exact K23
  · have hf := pm_ie hf c20
    obtain ⟨v24, e25, hf⟩ := pm_bd hf
    by_cases c26 : 0 ≤ v24
    · have hf := pm_it hf c26
      obtain ⟨v27, e28, hf⟩ := pm_bd hf
      have K29 := rgX10_shapeOf K0 (pr_c K0 Hx0 e13) e28
      obtain ⟨v30, e31, hf⟩ := pm_bd hf
      obtain ⟨k32, hf⟩ := pm_if hf
      obtain ⟨v33, e34, hf⟩ := pm_bd hf
      have K35 := rgX7_shape K0 (pr_c K0 (pr_c K0 (pr_c K0 Hx0 e3) e6) e31) e34
      exact rgX5_callByTable_b92 K35.1 Hx0 K35.2 K29 hf
    · have hf := pm_ie hf c26
      obtain ⟨v36, e37, hf⟩ := pm_bd hf
      have K38 := rgX5_fail K0 Hx0 e37
      have hf := Option.some.inj hf
      subst hf
      exact K38
set_option maxHeartbeats 4000000 in
set_option maxRecDepth 100000 in
theorem rgX5_callByTable {A : Nat → Prop} {h0 h : pm_H} (K0 : pr_F A h0 h) {a0 : Nat} {p1 : Int32} {p2 : Int32} {p3 : Int64} {p4 : Int32} (Ha0 : A a0) {r : pm_H} (hf : fX5_callByTable h a0 p1 p2 p3 p4 = some r) : pr_F A h0 r := by
  unfold fX5_callByTable at hf
  exact rgX5_callByTable_b0 K0 Ha0 hf
set_option maxHeartbeats 4000000 in
set_option maxRecDepth 100000 in
theorem rgX6_create_b43 {A : Nat → Prop} {h0 h : pm_H} (K0 : pr_F A h0 h) {x5 : Int32} {s0 : Int32}  {r : (Int32 × pm_H)} (hf : fX6_create_b43 h x5 s0 = some r) : pr_F A h0 r.2 := by
  unfold fX6_create_b43 at hf
  have hf := Option.some.inj hf
  subst hf
  exact K0
set_option maxHeartbeats 4000000 in
set_option maxRecDepth 100000 in
theorem rgX6_create_b0 {A : Nat → Prop} {h0 h : pm_H} (K0 : pr_F A h0 h) {x0 : Nat} {x1 : Int64} {x3 : Int64} (Hx0 : A x0) {r : (Int32 × pm_H)} (hf : fX6_create_b0 h x0 x1 x3 = some r) : pr_F A h0 r.2 := by
  unfold fX6_create_b0 at hf
  obtain ⟨k1, hf⟩ := pm_if hf
  obtain ⟨y2, e3, hf⟩ := pm_lt hf
  obtain ⟨y4, e5, hf⟩ := pm_lt hf
  obtain ⟨v6, e7, hf⟩ := pm_bd hf
  obtain ⟨v8, e9, hf⟩ := pm_bd hf
  have K10 := rgX12_setItem (pr_sI K0 Hx0) (pr_c (pr_sI K0 Hx0) Hx0 e7) e9
  obtain ⟨k11, hf⟩ := pm_if hf
  obtain ⟨v12, e13, hf⟩ := pm_bd hf
  obtain ⟨v14, e15, hf⟩ := pm_bd hf
  have K16 := rgX12_setItem_ K10 (pr_c K10 Hx0 e13) e15
  obtain ⟨k17, hf⟩ := pm_if hf
  obtain ⟨v18, e19, hf⟩ := pm_bd hf
  have K20 := rgX6_grow K16 Hx0 e19
  exact rgX6_create_b43 K20  hf
set_option maxHeartbeats 4000000 in
set_option maxRecDepth 100000 in
theorem rgX6_create {A : Nat → Prop} {h0 h : pm_H} (K0 : pr_F A h0 h) {a0 : Nat} {p1 : Int64} {p2 : Int64} (Ha0 : A a0) {r : (Int32 × pm_H)} (hf : fX6_create h a0 p1 p2 = some r) : pr_F A h0 r.2 := by
  unfold fX6_create at hf
  exact rgX6_create_b0 K0 Ha0 hf
set_option maxHeartbeats 4000000 in
set_option maxRecDepth 100000 in
theorem rlX16_make {A : Nat → Prop} {h0 : pm_H} {r : (Int32 × pm_H)} : ∀ n : Nat, (∀ (x0 : Nat) (x1 : Int32) (h : pm_H), pr_F A h0 h → A x0 → pm_iter sX16_make n (.inl (x0, x1, h)) = some r → pr_F A h0 r.2) ∧ (∀ (x0 : Nat) (x1 : Int32) (x2 : Nat) (x4 : Int32) (x5 : Int32) (h : pm_H), pr_F A h0 h → A x0 → A x2 → pm_iter sX16_make n (.inr (.inl (x0, x1, x2, x4, x5, h))) = some r → pr_F A h0 r.2) ∧ (∀ (x0 : Nat) (x1 : Int32) (x5 : Int32) (h : pm_H), pr_F A h0 h → A x0 → pm_iter sX16_make n (.inr (.inr (x0, x1, x5, h))) = some r → pr_F A h0 r.2) := by
  intro n
  induction n with
  | zero => exact ⟨fun _ _ _ _ _ hf => (by cases hf), fun _ _ _ _ _ _ _ _ _ hf => (by cases hf), fun _ _ _ _ _ _ hf => (by cases hf)⟩
  | succ n ih =>
    refine ⟨fun x0 x1 h K0 Hx0 hf => ?_, ?_⟩
    · obtain ⟨y, hf, hi⟩ := pm_iter_s hf
      have hf : tX16_make_0 x0 x1 h = some y := hf
      unfold tX16_make_0 at hf
      by_cases c1 : x1 < 0
      · have hf := pm_it hf c1
        have hf := Option.some.inj hf
        subst hf
        have hi := Option.some.inj (show some _ = some r from hi)
        subst hi
        exact K0
      · have hf := pm_ie hf c1
        obtain ⟨k2, hf⟩ := pm_if hf
        by_cases c3 : x1 < (pm_I h x0 3)
        · have hf := pm_it hf c3
          obtain ⟨v4, e5, hf⟩ := pm_bd hf
          by_cases c6 : v4 = 0
          · have hf := pm_it hf c6
            obtain ⟨v7, e8, hf⟩ := pm_bd hf
            obtain ⟨k9, hf⟩ := pm_if hf
            obtain ⟨u10, hf⟩ := pm_if hf
            obtain ⟨v11, e12, hf⟩ := pm_bd hf
            obtain ⟨y13, e14, hf⟩ := pm_lt hf
            obtain ⟨k15, hf⟩ := pm_if hf
            by_cases c16 : y13 = (pm_I (pm_setI h x0 73 0) v11 8)
            · have hf := pm_it hf c16
              cases hf
              exact ih.2.1 x0 x1 v11 0 0 (pm_setI h x0 73 0) (pr_sI K0 Hx0) Hx0 (pr_c K0 (pr_c K0 Hx0 e8) e12) hi
            · have hf := pm_ie hf c16
              have hf := Option.some.inj hf
              subst hf
              have hi := Option.some.inj (show some _ = some r from hi)
              subst hi
              exact (pr_sI K0 Hx0)
          · have hf := pm_ie hf c6
            have hf := Option.some.inj hf
            subst hf
            have hi := Option.some.inj (show some _ = some r from hi)
            subst hi
            exact K0
        · have hf := pm_ie hf c3
          have hf := Option.some.inj hf
          subst hf
          have hi := Option.some.inj (show some _ = some r from hi)
          subst hi
          exact K0
    refine ⟨fun x0 x1 x2 x4 x5 h K0 Hx0 Hx2 hf => ?_, ?_⟩
    · obtain ⟨y, hf, hi⟩ := pm_iter_s hf
      have hf : tX16_make_58 x0 x1 x2 x4 x5 h = some y := hf
      unfold tX16_make_58 at hf
      obtain ⟨k17, hf⟩ := pm_if hf
      by_cases c18 : (pm_I h x2 8) ≤ x5
      · have hf := pm_it hf c18
        obtain ⟨k19, hf⟩ := pm_if hf
        obtain ⟨v20, e21, hf⟩ := pm_bd hf
        by_cases c22 : v20 = 0
        · have hf := pm_it hf c22
          have hf := Option.some.inj hf
          subst hf
          have hi := Option.some.inj (show some _ = some r from hi)
          subst hi
          exact K0
        · have hf := pm_ie hf c22
          obtain ⟨y23, e24, hf⟩ := pm_lt hf
          obtain ⟨y25, e26, hf⟩ := pm_lt hf
          obtain ⟨v27, e28, hf⟩ := pm_bd hf
          obtain ⟨k29, hf⟩ := pm_if hf
          obtain ⟨u30, hf⟩ := pm_if hf
          obtain ⟨v31, e32, hf⟩ := pm_bd hf
          have K33 := rgX16_takesImports (pr_sR (pr_sI (pr_sI K0 Hx0) (pr_c (pr_sI K0 Hx0) Hx0 e28)) Hx0 Hx2) Hx0 e32
          cases hf
          exact ih.2.2 x0 x1 y23 v31 K33 Hx0 hi
      · have hf := pm_ie hf c18
        obtain ⟨k34, hf⟩ := pm_if hf
        obtain ⟨v35, e36, hf⟩ := pm_bd hf
        by_cases c37 : v35 = 0
        · have hf := pm_it hf c37
          obtain ⟨v38, e39, hf⟩ := pm_bd hf
          obtain ⟨k40, hf⟩ := pm_if hf
          obtain ⟨u41, hf⟩ := pm_if hf
          have hf := Option.some.inj hf
          subst hf
          have hi := Option.some.inj (show some _ = some r from hi)
          subst hi
          exact K0
        · have hf := pm_ie hf c37
          obtain ⟨v42, e43, hf⟩ := pm_bd hf
          obtain ⟨k44, hf⟩ := pm_if hf
          obtain ⟨u45, hf⟩ := pm_if hf
          by_cases c46 : (pm_I h v42 x5.toNatClampNeg) = (-1)
          · have hf := pm_it hf c46
            obtain ⟨y47, e48, hf⟩ := pm_lt hf
            obtain ⟨y49, e50, hf⟩ := pm_lt hf
            cases hf
            exact ih.2.1 x0 x1 x2 y47 y49 h K0 Hx0 Hx2 hi
          · have hf := pm_ie hf c46
            obtain ⟨y51, e52, hf⟩ := pm_lt hf
            obtain ⟨y53, e54, hf⟩ := pm_lt hf
            cases hf
            exact ih.2.1 x0 x1 x2 y51 y53 h K0 Hx0 Hx2 hi
    refine fun x0 x1 x5 h K0 Hx0 hf => ?_
    obtain ⟨y, hf, hi⟩ := pm_iter_s hf
    have hf : tX16_make_164 x0 x1 x5 h = some y := hf
    unfold tX16_make_164 at hf
    obtain ⟨k55, hf⟩ := pm_if hf
    obtain ⟨v56, e57, hf⟩ := pm_bd hf
    have K58 := rgX16_takesOwn K0 Hx0 e57
    obtain ⟨k59, hf⟩ := pm_if hf
    obtain ⟨v60, e61, hf⟩ := pm_bd hf
    have K62 := rgX16_startsUp K58 Hx0 e61
    have hf := Option.some.inj hf
    subst hf
    have hi := Option.some.inj (show some _ = some r from hi)
    subst hi
    exact K62
set_option maxHeartbeats 4000000 in
set_option maxRecDepth 100000 in
theorem rgX16_make {A : Nat → Prop} {h0 h : pm_H} (K0 : pr_F A h0 h) {a0 : Nat} {p1 : Int32} (Ha0 : A a0) {r : (Int32 × pm_H)} (hf : fX16_make h a0 p1 = some r) : pr_F A h0 r.2 := by
  unfold fX16_make at hf
  obtain ⟨n, hn⟩ := pm_lim_iter hf
  exact (rlX16_make n).1 a0 p1 h K0 Ha0 hn
set_option maxHeartbeats 4000000 in
set_option maxRecDepth 100000 in
theorem rgX1_check_b136 {A : Nat → Prop} {h0 h : pm_H} (K0 : pr_F A h0 h)   {r : pm_H} (hf : fX1_check_b136 h  = some r) : pr_F A h0 r := by
  unfold fX1_check_b136 at hf
  have hf := Option.some.inj hf
  subst hf
  exact K0
set_option maxHeartbeats 4000000 in
set_option maxRecDepth 100000 in
theorem rgX1_check_b125 {A : Nat → Prop} {h0 h : pm_H} (K0 : pr_F A h0 h) {x0 : Nat} (Hx0 : A x0) {r : pm_H} (hf : fX1_check_b125 h x0 = some r) : pr_F A h0 r := by
  unfold fX1_check_b125 at hf
  obtain ⟨k52, hf⟩ := pm_if hf
  by_cases c53 : (pm_I h x0 0) = 0
  · have hf := pm_it hf c53
    obtain ⟨v54, e55, hf⟩ := pm_bd hf
    have K56 := rgX1_makeBodies K0 Hx0 e55
    exact rgX1_check_b136 K56  hf
  · have hf := pm_ie hf c53
    exact rgX1_check_b136 K0  hf
set_option maxHeartbeats 4000000 in
set_option maxRecDepth 100000 in
theorem rgX1_check_b114 {A : Nat → Prop} {h0 h : pm_H} (K0 : pr_F A h0 h) {x0 : Nat} (Hx0 : A x0) {r : pm_H} (hf : fX1_check_b114 h x0 = some r) : pr_F A h0 r := by
  unfold fX1_check_b114 at hf
  obtain ⟨k47, hf⟩ := pm_if hf
  by_cases c48 : (pm_I h x0 0) = 0
  · have hf := pm_it hf c48
    obtain ⟨v49, e50, hf⟩ := pm_bd hf
    have K51 := rgX1_dataAreRight K0 Hx0 e50
    exact rgX1_check_b125 K51 Hx0 hf
  · have hf := pm_ie hf c48
    exact rgX1_check_b125 K0 Hx0 hf
set_option maxHeartbeats 4000000 in
set_option maxRecDepth 100000 in
theorem rgX1_check_b103 {A : Nat → Prop} {h0 h : pm_H} (K0 : pr_F A h0 h) {x0 : Nat} (Hx0 : A x0) {r : pm_H} (hf : fX1_check_b103 h x0 = some r) : pr_F A h0 r := by
  unfold fX1_check_b103 at hf
  obtain ⟨k42, hf⟩ := pm_if hf
  by_cases c43 : (pm_I h x0 0) = 0
  · have hf := pm_it hf c43
    obtain ⟨v44, e45, hf⟩ := pm_bd hf
    have K46 := rgX1_elementsAreRight K0 Hx0 e45
    exact rgX1_check_b114 K46 Hx0 hf
  · have hf := pm_ie hf c43
    exact rgX1_check_b114 K0 Hx0 hf
set_option maxHeartbeats 4000000 in
set_option maxRecDepth 100000 in
theorem rgX1_check_b92 {A : Nat → Prop} {h0 h : pm_H} (K0 : pr_F A h0 h) {x0 : Nat} (Hx0 : A x0) {r : pm_H} (hf : fX1_check_b92 h x0 = some r) : pr_F A h0 r := by
  unfold fX1_check_b92 at hf
  obtain ⟨k37, hf⟩ := pm_if hf
  by_cases c38 : (pm_I h x0 0) = 0
  · have hf := pm_it hf c38
    obtain ⟨v39, e40, hf⟩ := pm_bd hf
    have K41 := rgX1_globalsAreRight K0 Hx0 e40
    exact rgX1_check_b103 K41 Hx0 hf
  · have hf := pm_ie hf c38
    exact rgX1_check_b103 K0 Hx0 hf
set_option maxHeartbeats 4000000 in
set_option maxRecDepth 100000 in
theorem rgX1_check_b81 {A : Nat → Prop} {h0 h : pm_H} (K0 : pr_F A h0 h) {x0 : Nat} (Hx0 : A x0) {r : pm_H} (hf : fX1_check_b81 h x0 = some r) : pr_F A h0 r := by
  unfold fX1_check_b81 at hf
  obtain ⟨k32, hf⟩ := pm_if hf
  by_cases c33 : (pm_I h x0 0) = 0
  · have hf := pm_it hf c33
    obtain ⟨v34, e35, hf⟩ := pm_bd hf
    have K36 := rgX1_startIsRight K0 Hx0 e35
    exact rgX1_check_b92 K36 Hx0 hf
  · have hf := pm_ie hf c33
    exact rgX1_check_b92 K0 Hx0 hf
set_option maxHeartbeats 4000000 in
set_option maxRecDepth 100000 in
theorem rgX1_check_b70 {A : Nat → Prop} {h0 h : pm_H} (K0 : pr_F A h0 h) {x0 : Nat} (Hx0 : A x0) {r : pm_H} (hf : fX1_check_b70 h x0 = some r) : pr_F A h0 r := by
  unfold fX1_check_b70 at hf
  obtain ⟨k27, hf⟩ := pm_if hf
  by_cases c28 : (pm_I h x0 0) = 0
  · have hf := pm_it hf c28
    obtain ⟨v29, e30, hf⟩ := pm_bd hf
    have K31 := rgX1_exportsAreRight K0 Hx0 e30
    exact rgX1_check_b81 K31 Hx0 hf
  · have hf := pm_ie hf c28
    exact rgX1_check_b81 K0 Hx0 hf
set_option maxHeartbeats 4000000 in
set_option maxRecDepth 100000 in
theorem rgX1_check_b59 {A : Nat → Prop} {h0 h : pm_H} (K0 : pr_F A h0 h) {x0 : Nat} (Hx0 : A x0) {r : pm_H} (hf : fX1_check_b59 h x0 = some r) : pr_F A h0 r := by
  unfold fX1_check_b59 at hf
  obtain ⟨k22, hf⟩ := pm_if hf
  by_cases c23 : (pm_I h x0 0) = 0
  · have hf := pm_it hf c23
    obtain ⟨v24, e25, hf⟩ := pm_bd hf
    have K26 := rgX1_memoryIsOne K0 Hx0 e25
    exact rgX1_check_b70 K26 Hx0 hf
  · have hf := pm_ie hf c23
    exact rgX1_check_b70 K0 Hx0 hf
set_option maxHeartbeats 4000000 in
set_option maxRecDepth 100000 in
theorem rgX1_check_b48 {A : Nat → Prop} {h0 h : pm_H} (K0 : pr_F A h0 h) {x0 : Nat} (Hx0 : A x0) {r : pm_H} (hf : fX1_check_b48 h x0 = some r) : pr_F A h0 r := by
  unfold fX1_check_b48 at hf
  obtain ⟨k17, hf⟩ := pm_if hf
  by_cases c18 : (pm_I h x0 0) = 0
  · have hf := pm_it hf c18
    obtain ⟨v19, e20, hf⟩ := pm_bd hf
    have K21 := rgX1_limitsAreRight K0 Hx0 e20
    exact rgX1_check_b59 K21 Hx0 hf
  · have hf := pm_ie hf c18
    exact rgX1_check_b59 K0 Hx0 hf
set_option maxHeartbeats 4000000 in
set_option maxRecDepth 100000 in
theorem rgX1_check_b37 {A : Nat → Prop} {h0 h : pm_H} (K0 : pr_F A h0 h) {x0 : Nat} (Hx0 : A x0) {r : pm_H} (hf : fX1_check_b37 h x0 = some r) : pr_F A h0 r := by
  unfold fX1_check_b37 at hf
  obtain ⟨k12, hf⟩ := pm_if hf
  by_cases c13 : (pm_I h x0 0) = 0
  · have hf := pm_it hf c13
    obtain ⟨v14, e15, hf⟩ := pm_bd hf
    have K16 := rgX1_typesAreThere K0 Hx0 e15
    exact rgX1_check_b48 K16 Hx0 hf
  · have hf := pm_ie hf c13
    exact rgX1_check_b48 K0 Hx0 hf
set_option maxHeartbeats 4000000 in
set_option maxRecDepth 100000 in
theorem rgX1_check_b23 {A : Nat → Prop} {h0 h : pm_H} (K0 : pr_F A h0 h) {x0 : Nat} {x2 : Int32} {s0 : Nat} {s1 : Nat} (Hx0 : A x0) (Hs0 : A s0) (Hs1 : A s1) {r : pm_H} (hf : fX1_check_b23 h x0 x2 s0 s1 = some r) : pr_F A h0 r := by
  unfold fX1_check_b23 at hf
  obtain ⟨k6, hf⟩ := pm_if hf
  by_cases c7 : x2 < 0
  · have hf := pm_it hf c7
    exact rgX1_check_b37 (pr_sR K0 Hs1 Hs0) Hx0 hf
  · have hf := pm_ie hf c7
    obtain ⟨k8, hf⟩ := pm_if hf
    obtain ⟨v9, e10, hf⟩ := pm_bd hf
    have K11 := rgX1_failAt (pr_sR K0 Hs1 Hs0) Hx0 e10
    exact rgX1_check_b37 K11 Hx0 hf
set_option maxHeartbeats 4000000 in
set_option maxRecDepth 100000 in
theorem rgX1_check_b0 {A : Nat → Prop} {h0 h : pm_H} (K0 : pr_F A h0 h) {x0 : Nat} {x1 : Nat} {x2 : Int32} (Hx0 : A x0) (Hx1 : A x1) {r : pm_H} (hf : fX1_check_b0 h x0 x1 x2 = some r) : pr_F A h0 r := by
  unfold fX1_check_b0 at hf
  obtain ⟨k1, hf⟩ := pm_if hf
  obtain ⟨k2, hf⟩ := pm_if hf
  obtain ⟨v3, e4, hf⟩ := pm_bd hf
  obtain ⟨u5, hf⟩ := pm_if hf
  exact rgX1_check_b23 (pr_new (pr_sI (pr_sI (pr_sR K0 Hx0 Hx1) Hx0) Hx0)) Hx0 (pr_n (pr_sI (pr_sI (pr_sR K0 Hx0 Hx1) Hx0) Hx0)) Hx0 hf
set_option maxHeartbeats 4000000 in
set_option maxRecDepth 100000 in
theorem rgX1_check {A : Nat → Prop} {h0 h : pm_H} (K0 : pr_F A h0 h) {a0 : Nat} {p1 : Nat} {p2 : Int32} (Ha0 : A a0) (Hp1 : A p1) {r : pm_H} (hf : fX1_check h a0 p1 p2 = some r) : pr_F A h0 r := by
  unfold fX1_check at hf
  exact rgX1_check_b0 K0 Ha0 Hp1 hf
set_option maxHeartbeats 4000000 in
set_option maxRecDepth 100000 in
theorem rgX1_emitBranch_b32 {A : Nat → Prop} {h0 h : pm_H} (K0 : pr_F A h0 h) {x0 : Nat} {x2 : Int32} {x3 : Int32} {s0 : Int32} {s1 : Int32} {s2 : Int32} {s3 : Nat} (Hx0 : A x0) (Hs3 : A s3) {r : pm_H} (hf : fX1_emitBranch_b32 h x0 x2 x3 s0 s1 s2 s3 = some r) : pr_F A h0 r := by
  unfold fX1_emitBranch_b32 at hf
  obtain ⟨k12, hf⟩ := pm_if hf
  obtain ⟨v13, e14, hf⟩ := pm_bd hf
  obtain ⟨k15, hf⟩ := pm_if hf
  obtain ⟨v16, e17, hf⟩ := pm_bd hf
  have K18 := rgX1_emit K0 Hs3 e17
  by_cases c19 : x3 = 0
  · have hf := pm_it hf c19
    by_cases c20 : v16.1 < 0
    · have hf := pm_it hf c20
      have hf := Option.some.inj hf
      subst hf
      exact K18
    · have hf := pm_ie hf c20
      obtain ⟨k21, hf⟩ := pm_if hf
      obtain ⟨v22, e23, hf⟩ := pm_bd hf
      have K24 := rgX1_setLabel K18 Hx0 e23
      have hf := Option.some.inj hf
      subst hf
      exact K24
  · have hf := pm_ie hf c19
    have hf := Option.some.inj hf
    subst hf
    exact K18
set_option maxHeartbeats 4000000 in
set_option maxRecDepth 100000 in
theorem rgX1_emitBranch_b18 {A : Nat → Prop} {h0 h : pm_H} (K0 : pr_F A h0 h) {x0 : Nat} {x1 : Int32} {x2 : Int32} {x3 : Int32} {s0 : Int32} {s1 : Int32} {s2 : Nat} (Hx0 : A x0) (Hs2 : A s2) {r : pm_H} (hf : fX1_emitBranch_b18 h x0 x1 x2 x3 s0 s1 s2 = some r) : pr_F A h0 r := by
  unfold fX1_emitBranch_b18 at hf
  obtain ⟨k5, hf⟩ := pm_if hf
  obtain ⟨v6, e7, hf⟩ := pm_bd hf
  obtain ⟨k8, hf⟩ := pm_if hf
  obtain ⟨v9, e10, hf⟩ := pm_bd hf
  have K11 := rgX1_wantedCount K0 Hx0 e10
  exact rgX1_emitBranch_b32 K11 Hx0 Hx0 hf
set_option maxHeartbeats 4000000 in
set_option maxRecDepth 100000 in
theorem rgX1_emitBranch_b0 {A : Nat → Prop} {h0 h : pm_H} (K0 : pr_F A h0 h) {x0 : Nat} {x1 : Int32} {x2 : Int32} (Hx0 : A x0) {r : pm_H} (hf : fX1_emitBranch_b0 h x0 x1 x2 = some r) : pr_F A h0 r := by
  unfold fX1_emitBranch_b0 at hf
  obtain ⟨k1, hf⟩ := pm_if hf
  obtain ⟨v2, e3, hf⟩ := pm_bd hf
  by_cases c4 : v2 = 0
  · have hf := pm_it hf c4
    exact rgX1_emitBranch_b18 K0 Hx0 Hx0 hf
  · have hf := pm_ie hf c4
    exact rgX1_emitBranch_b18 K0 Hx0 Hx0 hf
set_option maxHeartbeats 4000000 in
set_option maxRecDepth 100000 in
theorem rgX1_emitBranch {A : Nat → Prop} {h0 h : pm_H} (K0 : pr_F A h0 h) {a0 : Nat} {p1 : Int32} {p2 : Int32} (Ha0 : A a0) {r : pm_H} (hf : fX1_emitBranch h a0 p1 p2 = some r) : pr_F A h0 r := by
  unfold fX1_emitBranch at hf
  exact rgX1_emitBranch_b0 K0 Ha0 hf
set_option maxHeartbeats 4000000 in
set_option maxRecDepth 100000 in
theorem rlX1_endBlock {A : Nat → Prop} {h0 : pm_H} {r : pm_H} : ∀ n : Nat, (∀ (x0 : Nat) (h : pm_H), pr_F A h0 h → A x0 → pm_iter sX1_endBlock n (.inl (x0, h)) = some r → pr_F A h0 r) ∧ (∀ (x0 : Nat) (x1 : Int32) (s0 : Nat) (h : pm_H), pr_F A h0 h → A x0 → A s0 → pm_iter sX1_endBlock n (.inr (.inl (x0, x1, s0, h))) = some r → pr_F A h0 r) ∧ (∀ (x0 : Nat) (x1 : Int32) (x2 : Nat) (h : pm_H), pr_F A h0 h → A x0 → A x2 → pm_iter sX1_endBlock n (.inr (.inr (.inl (x0, x1, x2, h)))) = some r → pr_F A h0 r) ∧ (∀ (x0 : Nat) (x1 : Int32) (x2 : Nat) (h : pm_H), pr_F A h0 h → A x0 → A x2 → pm_iter sX1_endBlock n (.inr (.inr (.inr (.inl (x0, x1, x2, h))))) = some r → pr_F A h0 r) ∧ (∀ (x0 : Nat) (x2 : Nat) (x3 : Int32) (x4 : Int32) (h : pm_H), pr_F A h0 h → A x0 → A x2 → pm_iter sX1_endBlock n (.inr (.inr (.inr (.inr (x0, x2, x3, x4, h))))) = some r → pr_F A h0 r) := by
  intro n
  induction n with
  | zero => exact ⟨fun _ _ _ _ hf => (by cases hf), fun _ _ _ _ _ _ _ hf => (by cases hf), fun _ _ _ _ _ _ _ hf => (by cases hf), fun _ _ _ _ _ _ _ hf => (by cases hf), fun _ _ _ _ _ _ _ _ hf => (by cases hf)⟩
  | succ n ih =>
    refine ⟨fun x0 h K0 Hx0 hf => ?_, ?_⟩
    · obtain ⟨y, hf, hi⟩ := pm_iter_s hf
      have hf : tX1_endBlock_0 x0 h = some y := hf
      unfold tX1_endBlock_0 at hf
      obtain ⟨k1, hf⟩ := pm_if hf
      obtain ⟨y2, e3, hf⟩ := pm_lt hf
      obtain ⟨v4, e5, hf⟩ := pm_bd hf
      have K6 := rgX1_shapeOfLabel K0 Hx0 e5
      cases hf
      exact ih.2.1 x0 y2 v4.1 v4.2 K6.1 Hx0 K6.2 hi
    refine ⟨fun x0 x1 s0 h K0 Hx0 Hs0 hf => ?_, ?_⟩
    · obtain ⟨y, hf, hi⟩ := pm_iter_s hf
      have hf : tX1_endBlock_12 x0 x1 s0 h = some y := hf
      unfold tX1_endBlock_12 at hf
      obtain ⟨k7, hf⟩ := pm_if hf
      obtain ⟨v8, e9, hf⟩ := pm_bd hf
      have K10 := rgX1_takeAllResults K0 Hx0 e9
      cases hf
      exact ih.2.2.1 x0 x1 s0 v8 K10 Hx0 Hs0 hi
    refine ⟨fun x0 x1 x2 h K0 Hx0 Hx2 hf => ?_, ?_⟩
    · obtain ⟨y, hf, hi⟩ := pm_iter_s hf
      have hf : tX1_endBlock_18 x0 x1 x2 h = some y := hf
      unfold tX1_endBlock_18 at hf
      obtain ⟨k11, hf⟩ := pm_if hf
      obtain ⟨v12, e13, hf⟩ := pm_bd hf
      by_cases c14 : v12 = 4
      · have hf := pm_it hf c14
        obtain ⟨v15, e16, hf⟩ := pm_bd hf
        by_cases c17 : v15 = 0
        · have hf := pm_it hf c17
          obtain ⟨v18, e19, hf⟩ := pm_bd hf
          have K20 := rgX1_fail K0 Hx0 e19
          cases hf
          exact ih.2.2.2.1 x0 x1 x2 v18 K20 Hx0 Hx2 hi
        · have hf := pm_ie hf c17
          cases hf
          exact ih.2.2.2.1 x0 x1 x2 h K0 Hx0 Hx2 hi
      · have hf := pm_ie hf c14
        cases hf
        exact ih.2.2.2.1 x0 x1 x2 h K0 Hx0 Hx2 hi
    refine ⟨fun x0 x1 x2 h K0 Hx0 Hx2 hf => ?_, ?_⟩
    · obtain ⟨y, hf, hi⟩ := pm_iter_s hf
      have hf : tX1_endBlock_41 x0 x1 x2 h = some y := hf
      unfold tX1_endBlock_41 at hf
      obtain ⟨k21, hf⟩ := pm_if hf
      by_cases c22 : (pm_I h x0 0) = 0
      · have hf := pm_it hf c22
        obtain ⟨v23, e24, hf⟩ := pm_bd hf
        have K25 := rgX1_aimCondition K0 Hx0 e24
        obtain ⟨k26, hf⟩ := pm_if hf
        obtain ⟨v27, e28, hf⟩ := pm_bd hf
        cases hf
        exact ih.2.2.2.2 x0 x2 v27 0 v23 K25 Hx0 Hx2 hi
      · have hf := pm_ie hf c22
        have hf := Option.some.inj hf
        subst hf
        have hi := Option.some.inj (show some _ = some r from hi)
        subst hi
        exact K0
    refine fun x0 x2 x3 x4 h K0 Hx0 Hx2 hf => ?_
    obtain ⟨y, hf, hi⟩ := pm_iter_s hf
    have hf : tX1_endBlock_64 x0 x2 x3 x4 h = some y := hf
    unfold tX1_endBlock_64 at hf
    obtain ⟨k29, hf⟩ := pm_if hf
    obtain ⟨v30, e31, hf⟩ := pm_bd hf
    obtain ⟨k32, hf⟩ := pm_if hf
    by_cases c33 : (pm_I h v30 2) ≤ x4
    · have hf := pm_it hf c33
      obtain ⟨y34, e35, hf⟩ := pm_lt hf
      by_cases c36 : (pm_I (pm_setI h x0 10 y34) x0 10) ≤ 0
      · have hf := pm_it hf c36
        obtain ⟨v37, e38, hf⟩ := pm_bd hf
        obtain ⟨v39, e40, hf⟩ := pm_bd hf
        have K41 := rgX0_emit (pr_sI K0 Hx0) (pr_c K0 Hx0 e31) e40
        have hf := Option.some.inj hf
        subst hf
        have hi := Option.some.inj (show some _ = some r from hi)
        subst hi
        exact K41
      · have hf := pm_ie hf c36
        obtain ⟨v42, e43, hf⟩ := pm_bd hf
        have K44 := rgX1_putResults (pr_sI K0 Hx0) Hx0 Hx2 e43
        have hf := Option.some.inj hf
        subst hf
        have hi := Option.some.inj (show some _ = some r from hi)
        subst hi
        exact K44
    · have hf := pm_ie hf c33
      by_cases c45 : x3 < 0
      · have hf := pm_it hf c45
        obtain ⟨y46, e47, hf⟩ := pm_lt hf
        by_cases c48 : (pm_I (pm_setI h x0 10 y46) x0 10) ≤ 0
        · have hf := pm_it hf c48
          obtain ⟨v49, e50, hf⟩ := pm_bd hf
          obtain ⟨v51, e52, hf⟩ := pm_bd hf
          have K53 := rgX0_emit (pr_sI K0 Hx0) (pr_c K0 Hx0 e31) e52
          have hf := Option.some.inj hf
          subst hf
          have hi := Option.some.inj (show some _ = some r from hi)
          subst hi
          exact K53
        · have hf := pm_ie hf c48
          obtain ⟨v54, e55, hf⟩ := pm_bd hf
          have K56 := rgX1_putResults (pr_sI K0 Hx0) Hx0 Hx2 e55
          have hf := Option.some.inj hf
          subst hf
          have hi := Option.some.inj (show some _ = some r from hi)
          subst hi
          exact K56
      · have hf := pm_ie hf c45
        obtain ⟨v57, e58, hf⟩ := pm_bd hf
        obtain ⟨v59, e60, hf⟩ := pm_bd hf
        have K61 := rgX0_aim K0 (pr_c K0 Hx0 e31) e60
        obtain ⟨y62, e63, hf⟩ := pm_lt hf
        cases hf
        exact ih.2.2.2.2 x0 x2 v57 y62 v59 K61 Hx0 Hx2 hi
set_option maxHeartbeats 4000000 in
set_option maxRecDepth 100000 in
theorem rgX1_endBlock {A : Nat → Prop} {h0 h : pm_H} (K0 : pr_F A h0 h) {a0 : Nat} (Ha0 : A a0) {r : pm_H} (hf : fX1_endBlock h a0 = some r) : pr_F A h0 r := by
  unfold fX1_endBlock at hf
  obtain ⟨n, hn⟩ := pm_lim_iter hf
  exact (rlX1_endBlock n).1 a0 h K0 Ha0 hn
set_option maxHeartbeats 4000000 in
set_option maxRecDepth 100000 in
theorem rgX1_otherwise_b43 {A : Nat → Prop} {h0 h : pm_H} (K0 : pr_F A h0 h) {s0 : Nat} {s1 : Nat} (Hs0 : A s0) (Hs1 : A s1) {r : pm_H} (hf : fX1_otherwise_b43 h s0 s1 = some r) : pr_F A h0 r := by
  unfold fX1_otherwise_b43 at hf
  obtain ⟨k27, hf⟩ := pm_if hf
  obtain ⟨v28, e29, hf⟩ := pm_bd hf
  have K30 := rgX1_putParameters K0 Hs1 Hs0 e29
  have hf := Option.some.inj hf
  subst hf
  exact K30
set_option maxHeartbeats 4000000 in
set_option maxRecDepth 100000 in
theorem rgX1_otherwise_b18 {A : Nat → Prop} {h0 h : pm_H} (K0 : pr_F A h0 h) {x0 : Nat} {x1 : Int32} (Hx0 : A x0) {r : pm_H} (hf : fX1_otherwise_b18 h x0 x1 = some r) : pr_F A h0 r := by
  unfold fX1_otherwise_b18 at hf
  obtain ⟨k11, hf⟩ := pm_if hf
  obtain ⟨v12, e13, hf⟩ := pm_bd hf
  have K14 := rgX1_aimCondition K0 Hx0 e13
  obtain ⟨k15, hf⟩ := pm_if hf
  obtain ⟨v16, e17, hf⟩ := pm_bd hf
  have K18 := rgX1_setLabel K14 Hx0 e17
  obtain ⟨k19, hf⟩ := pm_if hf
  obtain ⟨v20, e21, hf⟩ := pm_bd hf
  have K22 := rgX1_setLabel K18 Hx0 e21
  obtain ⟨k23, hf⟩ := pm_if hf
  obtain ⟨v24, e25, hf⟩ := pm_bd hf
  have K26 := rgX1_shapeOfLabel K22 Hx0 e25
  exact rgX1_otherwise_b43 K26.1 K26.2 Hx0 hf
set_option maxHeartbeats 4000000 in
set_option maxRecDepth 100000 in
theorem rgX1_otherwise_b12 {A : Nat → Prop} {h0 h : pm_H} (K0 : pr_F A h0 h) {x0 : Nat} {x1 : Int32} (Hx0 : A x0) {r : pm_H} (hf : fX1_otherwise_b12 h x0 x1 = some r) : pr_F A h0 r := by
  unfold fX1_otherwise_b12 at hf
  obtain ⟨k7, hf⟩ := pm_if hf
  obtain ⟨v8, e9, hf⟩ := pm_bd hf
  have K10 := rgX1_emitBranch K0 Hx0 e9
  exact rgX1_otherwise_b18 K10 Hx0 hf
set_option maxHeartbeats 4000000 in
set_option maxRecDepth 100000 in
theorem rgX1_otherwise_b0 {A : Nat → Prop} {h0 h : pm_H} (K0 : pr_F A h0 h) {x0 : Nat} (Hx0 : A x0) {r : pm_H} (hf : fX1_otherwise_b0 h x0 = some r) : pr_F A h0 r := by
  unfold fX1_otherwise_b0 at hf
  obtain ⟨k1, hf⟩ := pm_if hf
  obtain ⟨y2, e3, hf⟩ := pm_lt hf
  obtain ⟨v4, e5, hf⟩ := pm_bd hf
  have K6 := rgX1_takeAllResults K0 Hx0 e5
  exact rgX1_otherwise_b12 K6 Hx0 hf
set_option maxHeartbeats 4000000 in
set_option maxRecDepth 100000 in
theorem rgX1_otherwise {A : Nat → Prop} {h0 h : pm_H} (K0 : pr_F A h0 h) {a0 : Nat} (Ha0 : A a0) {r : pm_H} (hf : fX1_otherwise h a0 = some r) : pr_F A h0 r := by
  unfold fX1_otherwise at hf
  exact rgX1_otherwise_b0 K0 Ha0 hf
set_option maxHeartbeats 4000000 in
set_option maxRecDepth 100000 in
theorem rlX1_takeAndPutAgain {A : Nat → Prop} {h0 : pm_H} {r : pm_H} : ∀ n : Nat, (∀ (x0 : Nat) (x1 : Int32) (h : pm_H), pr_F A h0 h → A x0 → pm_iter sX1_takeAndPutAgain n (.inl (x0, x1, h)) = some r → pr_F A h0 r) ∧ (∀ (x0 : Nat) (x1 : Int32) (s0 : Int32) (s1 : Int32) (h : pm_H), pr_F A h0 h → A x0 → pm_iter sX1_takeAndPutAgain n (.inr (.inl (x0, x1, s0, s1, h))) = some r → pr_F A h0 r) ∧ (∀ (x0 : Nat) (x1 : Int32) (x2 : Int32) (s0 : Nat) (h : pm_H), pr_F A h0 h → A x0 → A s0 → pm_iter sX1_takeAndPutAgain n (.inr (.inr (.inl (x0, x1, x2, s0, h)))) = some r → pr_F A h0 r) ∧ (∀ (x0 : Nat) (x2 : Int32) (x3 : Nat) (s0 : Int32) (h : pm_H), pr_F A h0 h → A x0 → A x3 → pm_iter sX1_takeAndPutAgain n (.inr (.inr (.inr (.inl (x0, x2, x3, s0, h))))) = some r → pr_F A h0 r) ∧ (∀ (x0 : Nat) (x2 : Int32) (x3 : Nat) (x4 : Int32) (x5 : Int32) (h : pm_H), pr_F A h0 h → A x0 → A x3 → pm_iter sX1_takeAndPutAgain n (.inr (.inr (.inr (.inr (.inl (x0, x2, x3, x4, x5, h)))))) = some r → pr_F A h0 r) ∧ (∀ (x0 : Nat) (x2 : Int32) (x5 : Int32) (h : pm_H), pr_F A h0 h → A x0 → pm_iter sX1_takeAndPutAgain n (.inr (.inr (.inr (.inr (.inr (x0, x2, x5, h)))))) = some r → pr_F A h0 r) := by
  intro n
  induction n with
  | zero => exact ⟨fun _ _ _ _ _ hf => (by cases hf), fun _ _ _ _ _ _ _ hf => (by cases hf), fun _ _ _ _ _ _ _ _ hf => (by cases hf), fun _ _ _ _ _ _ _ _ hf => (by cases hf), fun _ _ _ _ _ _ _ _ _ hf => (by cases hf), fun _ _ _ _ _ _ hf => (by cases hf)⟩
  | succ n ih =>
    refine ⟨fun x0 x1 h K0 Hx0 hf => ?_, ?_⟩
    · obtain ⟨y, hf, hi⟩ := pm_iter_s hf
      have hf : tX1_takeAndPutAgain_0 x0 x1 h = some y := hf
      unfold tX1_takeAndPutAgain_0 at hf
      obtain ⟨k1, hf⟩ := pm_if hf
      obtain ⟨v2, e3, hf⟩ := pm_bd hf
      obtain ⟨k4, hf⟩ := pm_if hf
      obtain ⟨v5, e6, hf⟩ := pm_bd hf
      have K7 := rgX1_wantedCount K0 Hx0 e6
      cases hf
      exact ih.2.1 x0 x1 v5.1 (Int32.ofNat (pm_ln h v2)) v5.2 K7 Hx0 hi
    refine ⟨fun x0 x1 s0 s1 h K0 Hx0 hf => ?_, ?_⟩
    · obtain ⟨y, hf, hi⟩ := pm_iter_s hf
      have hf : tX1_takeAndPutAgain_10 x0 x1 s0 s1 h = some y := hf
      unfold tX1_takeAndPutAgain_10 at hf
      obtain ⟨y8, e9, hf⟩ := pm_lt hf
      obtain ⟨k10, hf⟩ := pm_if hf
      obtain ⟨v11, e12, hf⟩ := pm_bd hf
      have K13 := rgX1_shapeOfLabel K0 Hx0 e12
      cases hf
      exact ih.2.2.1 x0 x1 y8 v11.1 v11.2 K13.1 Hx0 K13.2 hi
    refine ⟨fun x0 x1 x2 s0 h K0 Hx0 Hs0 hf => ?_, ?_⟩
    · obtain ⟨y, hf, hi⟩ := pm_iter_s hf
      have hf : tX1_takeAndPutAgain_19 x0 x1 x2 s0 h = some y := hf
      unfold tX1_takeAndPutAgain_19 at hf
      obtain ⟨k14, hf⟩ := pm_if hf
      obtain ⟨v15, e16, hf⟩ := pm_bd hf
      have K17 := rgX1_wantedFrom K0 Hx0 e16
      cases hf
      exact ih.2.2.2.1 x0 x2 s0 v15.1 v15.2 K17 Hx0 Hs0 hi
    refine ⟨fun x0 x2 x3 s0 h K0 Hx0 Hx3 hf => ?_, ?_⟩
    · obtain ⟨y, hf, hi⟩ := pm_iter_s hf
      have hf : tX1_takeAndPutAgain_25 x0 x2 x3 s0 h = some y := hf
      unfold tX1_takeAndPutAgain_25 at hf
      obtain ⟨y18, e19, hf⟩ := pm_lt hf
      cases hf
      exact ih.2.2.2.2.1 x0 x2 x3 s0 y18 h K0 Hx0 Hx3 hi
    refine ⟨fun x0 x2 x3 x4 x5 h K0 Hx0 Hx3 hf => ?_, ?_⟩
    · obtain ⟨y, hf, hi⟩ := pm_iter_s hf
      have hf : tX1_takeAndPutAgain_32 x0 x2 x3 x4 x5 h = some y := hf
      unfold tX1_takeAndPutAgain_32 at hf
      by_cases c20 : x5 < 0
      · have hf := pm_it hf c20
        cases hf
        exact ih.2.2.2.2.2 x0 x2 0 h K0 Hx0 hi
      · have hf := pm_ie hf c20
        obtain ⟨k21, hf⟩ := pm_if hf
        obtain ⟨v22, e23, hf⟩ := pm_bd hf
        obtain ⟨v24, e25, hf⟩ := pm_bd hf
        obtain ⟨v26, e27, hf⟩ := pm_bd hf
        have K28 := rgX1_take K0 Hx0 e27
        obtain ⟨k29, hf⟩ := pm_if hf
        obtain ⟨u30, hf⟩ := pm_if hf
        obtain ⟨y31, e32, hf⟩ := pm_lt hf
        cases hf
        exact ih.2.2.2.2.1 x0 x2 x3 x4 y31 (pm_setI v26.2 v22 x5.toNatClampNeg v26.1) (pr_sI K28 (pr_c K0 Hx0 e23)) Hx0 Hx3 hi
    refine fun x0 x2 x5 h K0 Hx0 hf => ?_
    obtain ⟨y, hf, hi⟩ := pm_iter_s hf
    have hf : tX1_takeAndPutAgain_66 x0 x2 x5 h = some y := hf
    unfold tX1_takeAndPutAgain_66 at hf
    by_cases c33 : x2 ≤ x5
    · have hf := pm_it hf c33
      have hf := Option.some.inj hf
      subst hf
      have hi := Option.some.inj (show some _ = some r from hi)
      subst hi
      exact K0
    · have hf := pm_ie hf c33
      obtain ⟨k34, hf⟩ := pm_if hf
      obtain ⟨v35, e36, hf⟩ := pm_bd hf
      obtain ⟨k37, hf⟩ := pm_if hf
      obtain ⟨u38, hf⟩ := pm_if hf
      obtain ⟨v39, e40, hf⟩ := pm_bd hf
      have K41 := rgX1_put K0 Hx0 e40
      obtain ⟨y42, e43, hf⟩ := pm_lt hf
      cases hf
      exact ih.2.2.2.2.2 x0 x2 y42 v39 K41 Hx0 hi
set_option maxHeartbeats 4000000 in
set_option maxRecDepth 100000 in
theorem rgX1_takeAndPutAgain {A : Nat → Prop} {h0 h : pm_H} (K0 : pr_F A h0 h) {a0 : Nat} {p1 : Int32} (Ha0 : A a0) {r : pm_H} (hf : fX1_takeAndPutAgain h a0 p1 = some r) : pr_F A h0 r := by
  unfold fX1_takeAndPutAgain at hf
  obtain ⟨n, hn⟩ := pm_lim_iter hf
  exact (rlX1_takeAndPutAgain n).1 a0 p1 h K0 Ha0 hn
set_option maxHeartbeats 4000000 in
set_option maxRecDepth 100000 in
theorem rgX1_takeWanted_b16 {A : Nat → Prop} {h0 h : pm_H} (K0 : pr_F A h0 h) {s0 : Int32} {s1 : Int32} {s2 : Nat} {s3 : Nat} (Hs2 : A s2) (Hs3 : A s3) {r : pm_H} (hf : fX1_takeWanted_b16 h s0 s1 s2 s3 = some r) : pr_F A h0 r := by
  unfold fX1_takeWanted_b16 at hf
  obtain ⟨k13, hf⟩ := pm_if hf
  obtain ⟨v14, e15, hf⟩ := pm_bd hf
  have K16 := rgX1_takeTypes K0 Hs3 Hs2 e15
  have hf := Option.some.inj hf
  subst hf
  exact K16
set_option maxHeartbeats 4000000 in
set_option maxRecDepth 100000 in
theorem rgX1_takeWanted_b11 {A : Nat → Prop} {h0 h : pm_H} (K0 : pr_F A h0 h) {x0 : Nat} {x1 : Int32} {s0 : Int32} {s1 : Nat} {s2 : Nat} (Hx0 : A x0) (Hs1 : A s1) (Hs2 : A s2) {r : pm_H} (hf : fX1_takeWanted_b11 h x0 x1 s0 s1 s2 = some r) : pr_F A h0 r := by
  unfold fX1_takeWanted_b11 at hf
  obtain ⟨k9, hf⟩ := pm_if hf
  obtain ⟨v10, e11, hf⟩ := pm_bd hf
  have K12 := rgX1_wantedCount K0 Hx0 e11
  exact rgX1_takeWanted_b16 K12 Hs1 Hs2 hf
set_option maxHeartbeats 4000000 in
set_option maxRecDepth 100000 in
theorem rgX1_takeWanted_b6 {A : Nat → Prop} {h0 h : pm_H} (K0 : pr_F A h0 h) {x0 : Nat} {x1 : Int32} {s0 : Nat} {s1 : Nat} (Hx0 : A x0) (Hs0 : A s0) (Hs1 : A s1) {r : pm_H} (hf : fX1_takeWanted_b6 h x0 x1 s0 s1 = some r) : pr_F A h0 r := by
  unfold fX1_takeWanted_b6 at hf
  obtain ⟨k5, hf⟩ := pm_if hf
  obtain ⟨v6, e7, hf⟩ := pm_bd hf
  have K8 := rgX1_wantedFrom K0 Hx0 e7
  exact rgX1_takeWanted_b11 K8 Hx0 Hs0 Hs1 hf
set_option maxHeartbeats 4000000 in
set_option maxRecDepth 100000 in
theorem rgX1_takeWanted_b0 {A : Nat → Prop} {h0 h : pm_H} (K0 : pr_F A h0 h) {x0 : Nat} {x1 : Int32} (Hx0 : A x0) {r : pm_H} (hf : fX1_takeWanted_b0 h x0 x1 = some r) : pr_F A h0 r := by
  unfold fX1_takeWanted_b0 at hf
  obtain ⟨k1, hf⟩ := pm_if hf
  obtain ⟨v2, e3, hf⟩ := pm_bd hf
  have K4 := rgX1_shapeOfLabel K0 Hx0 e3
  exact rgX1_takeWanted_b6 K4.1 Hx0 K4.2 Hx0 hf
set_option maxHeartbeats 4000000 in
set_option maxRecDepth 100000 in
theorem rgX1_takeWanted {A : Nat → Prop} {h0 h : pm_H} (K0 : pr_F A h0 h) {a0 : Nat} {p1 : Int32} (Ha0 : A a0) {r : pm_H} (hf : fX1_takeWanted h a0 p1 = some r) : pr_F A h0 r := by
  unfold fX1_takeWanted at hf
  exact rgX1_takeWanted_b0 K0 Ha0 hf
set_option maxHeartbeats 4000000 in
set_option maxRecDepth 100000 in
theorem rgX1_branch_b94 {A : Nat → Prop} {h0 h : pm_H} (K0 : pr_F A h0 h) {x0 : Nat} (Hx0 : A x0) {r : pm_H} (hf : fX1_branch_b94 h x0 = some r) : pr_F A h0 r := by
  unfold fX1_branch_b94 at hf
  obtain ⟨k45, hf⟩ := pm_if hf
  obtain ⟨v46, e47, hf⟩ := pm_bd hf
  obtain ⟨k48, hf⟩ := pm_if hf
  by_cases c49 : (pm_I h v46 6) = 12
  · have hf := pm_it hf c49
    obtain ⟨v50, e51, hf⟩ := pm_bd hf
    have K52 := rgX1_die K0 Hx0 e51
    have hf := Option.some.inj hf
    subst hf
    exact K52
  · have hf := pm_ie hf c49
    have hf := Option.some.inj hf
    subst hf
    exact K0
set_option maxHeartbeats 4000000 in
set_option maxRecDepth 100000 in
theorem rgX1_branch_b82 {A : Nat → Prop} {h0 h : pm_H} (K0 : pr_F A h0 h) {x0 : Nat} {x3 : Int32} (Hx0 : A x0) {r : pm_H} (hf : fX1_branch_b82 h x0 x3 = some r) : pr_F A h0 r := by
  unfold fX1_branch_b82 at hf
  obtain ⟨k34, hf⟩ := pm_if hf
  obtain ⟨v35, e36, hf⟩ := pm_bd hf
  obtain ⟨k37, hf⟩ := pm_if hf
  obtain ⟨v38, e39, hf⟩ := pm_bd hf
  have K40 := rgX1_emitBranch K0 Hx0 e39
  exact rgX1_branch_b94 K40 Hx0 hf
set_option maxHeartbeats 4000000 in
set_option maxRecDepth 100000 in
theorem rgX1_branch_b79 {A : Nat → Prop} {h0 h : pm_H} (K0 : pr_F A h0 h) {x0 : Nat} {x3 : Int32} {s0 : Int32} {s1 : Int32} {s2 : Nat} {s3 : Nat} (Hx0 : A x0) (Hs2 : A s2) (Hs3 : A s3) {r : pm_H} (hf : fX1_branch_b79 h x0 x3 s0 s1 s2 s3 = some r) : pr_F A h0 r := by
  unfold fX1_branch_b79 at hf
  obtain ⟨k53, hf⟩ := pm_if hf
  obtain ⟨v54, e55, hf⟩ := pm_bd hf
  have K56 := rgX1_putTypes K0 Hs3 Hs2 e55
  exact rgX1_branch_b82 K56 Hx0 hf
set_option maxHeartbeats 4000000 in
set_option maxRecDepth 100000 in
theorem rgX1_branch_b74 {A : Nat → Prop} {h0 h : pm_H} (K0 : pr_F A h0 h) {x0 : Nat} {x3 : Int32} {s0 : Int32} {s1 : Nat} {s2 : Nat} (Hx0 : A x0) (Hs1 : A s1) (Hs2 : A s2) {r : pm_H} (hf : fX1_branch_b74 h x0 x3 s0 s1 s2 = some r) : pr_F A h0 r := by
  unfold fX1_branch_b74 at hf
  obtain ⟨k41, hf⟩ := pm_if hf
  obtain ⟨v42, e43, hf⟩ := pm_bd hf
  have K44 := rgX1_wantedCount K0 Hx0 e43
  exact rgX1_branch_b79 K44 Hx0 Hs1 Hs2 hf
set_option maxHeartbeats 4000000 in
set_option maxRecDepth 100000 in
theorem rgX1_branch_b69 {A : Nat → Prop} {h0 h : pm_H} (K0 : pr_F A h0 h) {x0 : Nat} {x3 : Int32} {s0 : Nat} {s1 : Nat} (Hx0 : A x0) (Hs0 : A s0) (Hs1 : A s1) {r : pm_H} (hf : fX1_branch_b69 h x0 x3 s0 s1 = some r) : pr_F A h0 r := by
  unfold fX1_branch_b69 at hf
  obtain ⟨k30, hf⟩ := pm_if hf
  obtain ⟨v31, e32, hf⟩ := pm_bd hf
  have K33 := rgX1_wantedFrom K0 Hx0 e32
  exact rgX1_branch_b74 K33 Hx0 Hs0 Hs1 hf
set_option maxHeartbeats 4000000 in
set_option maxRecDepth 100000 in
theorem rgX1_branch_b51 {A : Nat → Prop} {h0 h : pm_H} (K0 : pr_F A h0 h) {x0 : Nat} {x3 : Int32} (Hx0 : A x0) {r : pm_H} (hf : fX1_branch_b51 h x0 x3 = some r) : pr_F A h0 r := by
  unfold fX1_branch_b51 at hf
  obtain ⟨k22, hf⟩ := pm_if hf
  obtain ⟨v23, e24, hf⟩ := pm_bd hf
  obtain ⟨k25, hf⟩ := pm_if hf
  by_cases c26 : (pm_I h v23 6) = 13
  · have hf := pm_it hf c26
    obtain ⟨v27, e28, hf⟩ := pm_bd hf
    have K29 := rgX1_shapeOfLabel K0 Hx0 e28
    exact rgX1_branch_b69 K29.1 Hx0 K29.2 Hx0 hf
  · have hf := pm_ie hf c26
    exact rgX1_branch_b82 K0 Hx0 hf
set_option maxHeartbeats 4000000 in
set_option maxRecDepth 100000 in
theorem rgX1_branch_b0 {A : Nat → Prop} {h0 h : pm_H} (K0 : pr_F A h0 h) {x0 : Nat} {x1 : Int64} (Hx0 : A x0) {r : pm_H} (hf : fX1_branch_b0 h x0 x1 = some r) : pr_F A h0 r := by
  unfold fX1_branch_b0 at hf
  obtain ⟨k1, hf⟩ := pm_if hf
  by_cases c2 : x1 < ((pm_I h x0 10).toInt64)
  · have hf := pm_it hf c2
    obtain ⟨y3, e4, hf⟩ := pm_lt hf
    obtain ⟨v5, e6, hf⟩ := pm_bd hf
    obtain ⟨k7, hf⟩ := pm_if hf
    by_cases c8 : (pm_I h v5 6) = 13
    · have hf := pm_it hf c8
      obtain ⟨v9, e10, hf⟩ := pm_bd hf
      have K11 := rgX1_take K0 Hx0 e10
      obtain ⟨k12, hf⟩ := pm_if hf
      obtain ⟨v13, e14, hf⟩ := pm_bd hf
      have K15 := rgX1_takeWanted K11 Hx0 e14
      exact rgX1_branch_b51 K15 Hx0 hf
    · have hf := pm_ie hf c8
      obtain ⟨v16, e17, hf⟩ := pm_bd hf
      have K18 := rgX1_takeWanted K0 Hx0 e17
      exact rgX1_branch_b51 K18 Hx0 hf
  · have hf := pm_ie hf c2
    obtain ⟨v19, e20, hf⟩ := pm_bd hf
    have K21 := rgX1_fail K0 Hx0 e20
    have hf := Option.some.inj hf
    subst hf
    exact K21
set_option maxHeartbeats 4000000 in
set_option maxRecDepth 100000 in
theorem rgX1_branch {A : Nat → Prop} {h0 h : pm_H} (K0 : pr_F A h0 h) {a0 : Nat} {p1 : Int64} (Ha0 : A a0) {r : pm_H} (hf : fX1_branch h a0 p1 = some r) : pr_F A h0 r := by
  unfold fX1_branch at hf
  exact rgX1_branch_b0 K0 Ha0 hf
set_option maxHeartbeats 4000000 in
set_option maxRecDepth 100000 in
theorem rlX1_branchByTable {A : Nat → Prop} {h0 : pm_H} {r : pm_H} : ∀ n : Nat, (∀ (x0 : Nat) (h : pm_H), pr_F A h0 h → A x0 → pm_iter sX1_branchByTable n (.inl (x0, h)) = some r → pr_F A h0 r) ∧ (∀ (x0 : Nat) (x1 : Int32) (x2 : Int32) (x3 : Int32) (h : pm_H), pr_F A h0 h → A x0 → pm_iter sX1_branchByTable n (.inr (.inl (x0, x1, x2, x3, h))) = some r → pr_F A h0 r) ∧ (∀ (x0 : Nat) (x1 : Int32) (x2 : Int32) (x3 : Int32) (h : pm_H), pr_F A h0 h → A x0 → pm_iter sX1_branchByTable n (.inr (.inr (.inl (x0, x1, x2, x3, h)))) = some r → pr_F A h0 r) ∧ (∀ (x0 : Nat) (x1 : Int32) (x2 : Int32) (x3 : Int32) (x4 : Int32) (s0 : Int32) (h : pm_H), pr_F A h0 h → A x0 → pm_iter sX1_branchByTable n (.inr (.inr (.inr (.inl (x0, x1, x2, x3, x4, s0, h))))) = some r → pr_F A h0 r) ∧ (∀ (x0 : Nat) (x1 : Int32) (x2 : Int32) (x3 : Int32) (x4 : Int32) (s0 : Int32) (s1 : Int32) (h : pm_H), pr_F A h0 h → A x0 → pm_iter sX1_branchByTable n (.inr (.inr (.inr (.inr (.inl (x0, x1, x2, x3, x4, s0, s1, h)))))) = some r → pr_F A h0 r) ∧ (∀ (x0 : Nat) (x1 : Int32) (x2 : Int32) (x3 : Int32) (x4 : Int32) (h : pm_H), pr_F A h0 h → A x0 → pm_iter sX1_branchByTable n (.inr (.inr (.inr (.inr (.inr (.inl (x0, x1, x2, x3, x4, h))))))) = some r → pr_F A h0 r) ∧ (∀ (x0 : Nat) (x1 : Int32) (x2 : Int32) (x3 : Int32) (x4 : Int32) (h : pm_H), pr_F A h0 h → A x0 → pm_iter sX1_branchByTable n (.inr (.inr (.inr (.inr (.inr (.inr (.inl (x0, x1, x2, x3, x4, h)))))))) = some r → pr_F A h0 r) ∧ (∀ (x0 : Nat) (x1 : Int32) (x2 : Int32) (x3 : Int32) (h : pm_H), pr_F A h0 h → A x0 → pm_iter sX1_branchByTable n (.inr (.inr (.inr (.inr (.inr (.inr (.inr (x0, x1, x2, x3, h)))))))) = some r → pr_F A h0 r) := by
  intro n
  induction n with
  | zero => exact ⟨fun _ _ _ _ hf => (by cases hf), fun _ _ _ _ _ _ _ hf => (by cases hf), fun _ _ _ _ _ _ _ hf => (by cases hf), fun _ _ _ _ _ _ _ _ _ hf => (by cases hf), fun _ _ _ _ _ _ _ _ _ _ hf => (by cases hf), fun _ _ _ _ _ _ _ _ hf => (by cases hf), fun _ _ _ _ _ _ _ _ hf => (by cases hf), fun _ _ _ _ _ _ _ hf => (by cases hf)⟩
  | succ n ih =>
    refine ⟨fun x0 h K0 Hx0 hf => ?_, ?_⟩
    · obtain ⟨y, hf, hi⟩ := pm_iter_s hf
      have hf : tX1_branchByTable_0 x0 h = some y := hf
      unfold tX1_branchByTable_0 at hf
      obtain ⟨k1, hf⟩ := pm_if hf
      obtain ⟨v2, e3, hf⟩ := pm_bd hf
      obtain ⟨k4, hf⟩ := pm_if hf
      obtain ⟨y5, e6, hf⟩ := pm_lt hf
      obtain ⟨y7, e8, hf⟩ := pm_lt hf
      cases hf
      exact ih.2.1 x0 y5 0 0 (pm_setI h v2 1 y7) (pr_sI K0 (pr_c K0 Hx0 e3)) Hx0 hi
    refine ⟨fun x0 x1 x2 x3 h K0 Hx0 hf => ?_, ?_⟩
    · obtain ⟨y, hf, hi⟩ := pm_iter_s hf
      have hf : tX1_branchByTable_28 x0 x1 x2 x3 h = some y := hf
      unfold tX1_branchByTable_28 at hf
      by_cases c9 : x1 < x3
      · have hf := pm_it hf c9
        obtain ⟨k10, hf⟩ := pm_if hf
        by_cases c11 : (pm_I h x0 0) = 0
        · have hf := pm_it hf c11
          obtain ⟨v12, e13, hf⟩ := pm_bd hf
          have K14 := rgX1_take K0 Hx0 e13
          obtain ⟨k15, hf⟩ := pm_if hf
          obtain ⟨v16, e17, hf⟩ := pm_bd hf
          have K18 := rgX1_emit K14 Hx0 e17
          obtain ⟨k19, hf⟩ := pm_if hf
          obtain ⟨v20, e21, hf⟩ := pm_bd hf
          obtain ⟨k22, hf⟩ := pm_if hf
          obtain ⟨y23, e24, hf⟩ := pm_lt hf
          cases hf
          exact ih.2.2.1 x0 x1 x2 0 (pm_setI v16.2 v20 1 y23) (pr_sI K18 (pr_c K18 Hx0 e21)) Hx0 hi
        · have hf := pm_ie hf c11
          have hf := Option.some.inj hf
          subst hf
          have hi := Option.some.inj (show some _ = some r from hi)
          subst hi
          exact K0
      · have hf := pm_ie hf c9
        obtain ⟨k25, hf⟩ := pm_if hf
        obtain ⟨v26, e27, hf⟩ := pm_bd hf
        obtain ⟨k28, hf⟩ := pm_if hf
        obtain ⟨v29, e30, hf⟩ := pm_bd hf
        have K31 := rgX9_number K0 (pr_c K0 Hx0 e27) e30
        obtain ⟨k32, hf⟩ := pm_if hf
        by_cases c33 : v29.1 < ((pm_I v29.2 x0 10).toInt64)
        · have hf := pm_it hf c33
          obtain ⟨v34, e35, hf⟩ := pm_lt hf
          obtain ⟨y36, e37, hf⟩ := pm_lt hf
          obtain ⟨y38, e39, hf⟩ := pm_lt hf
          cases hf
          exact ih.2.1 x0 x1 y36 y38 v29.2 K31 Hx0 hi
        · have hf := pm_ie hf c33
          obtain ⟨v40, e41, hf⟩ := pm_bd hf
          have K42 := rgX1_fail K31 Hx0 e41
          obtain ⟨k43, hf⟩ := pm_if hf
          obtain ⟨v44, e45, hf⟩ := pm_lt hf
          obtain ⟨y46, e47, hf⟩ := pm_lt hf
          obtain ⟨y48, e49, hf⟩ := pm_lt hf
          cases hf
          exact ih.2.1 x0 x1 y46 y48 v40 K42 Hx0 hi
    refine ⟨fun x0 x1 x2 x3 h K0 Hx0 hf => ?_, ?_⟩
    · obtain ⟨y, hf, hi⟩ := pm_iter_s hf
      have hf : tX1_branchByTable_122 x0 x1 x2 x3 h = some y := hf
      unfold tX1_branchByTable_122 at hf
      by_cases c50 : x1 < x3
      · have hf := pm_it hf c50
        obtain ⟨k51, hf⟩ := pm_if hf
        obtain ⟨v52, e53, hf⟩ := pm_bd hf
        have K54 := rgX1_die K0 Hx0 e53
        have hf := Option.some.inj hf
        subst hf
        have hi := Option.some.inj (show some _ = some r from hi)
        subst hi
        exact K54
      · have hf := pm_ie hf c50
        obtain ⟨k55, hf⟩ := pm_if hf
        by_cases c56 : (pm_I h x0 0) = 0
        · have hf := pm_it hf c56
          obtain ⟨v57, e58, hf⟩ := pm_bd hf
          obtain ⟨k59, hf⟩ := pm_if hf
          obtain ⟨v60, e61, hf⟩ := pm_bd hf
          have K62 := rgX9_number K0 (pr_c K0 Hx0 e58) e61
          obtain ⟨y63, e64, hf⟩ := pm_lt hf
          obtain ⟨k65, hf⟩ := pm_if hf
          obtain ⟨v66, e67, hf⟩ := pm_bd hf
          have K68 := rgX1_wantedCount K62 Hx0 e67
          cases hf
          exact ih.2.2.2.1 x0 x1 x2 x3 y63 v66.1 v66.2 K68 Hx0 hi
        · have hf := pm_ie hf c56
          obtain ⟨v69, e70, hf⟩ := pm_bd hf
          have K71 := rgX1_die K0 Hx0 e70
          have hf := Option.some.inj hf
          subst hf
          have hi := Option.some.inj (show some _ = some r from hi)
          subst hi
          exact K71
    refine ⟨fun x0 x1 x2 x3 x4 s0 h K0 Hx0 hf => ?_, ?_⟩
    · obtain ⟨y, hf, hi⟩ := pm_iter_s hf
      have hf : tX1_branchByTable_159 x0 x1 x2 x3 x4 s0 h = some y := hf
      unfold tX1_branchByTable_159 at hf
      obtain ⟨k72, hf⟩ := pm_if hf
      obtain ⟨v73, e74, hf⟩ := pm_bd hf
      have K75 := rgX1_wantedCount K0 Hx0 e74
      cases hf
      exact ih.2.2.2.2.1 x0 x1 x2 x3 x4 v73.1 s0 v73.2 K75 Hx0 hi
    refine ⟨fun x0 x1 x2 x3 x4 s0 s1 h K0 Hx0 hf => ?_, ?_⟩
    · obtain ⟨y, hf, hi⟩ := pm_iter_s hf
      have hf : tX1_branchByTable_164 x0 x1 x2 x3 x4 s0 s1 h = some y := hf
      unfold tX1_branchByTable_164 at hf
      by_cases c76 : s1 = s0
      · have hf := pm_it hf c76
        by_cases c77 : x1 ≤ x3
        · have hf := pm_it hf c77
          obtain ⟨k78, hf⟩ := pm_if hf
          obtain ⟨v79, e80, hf⟩ := pm_bd hf
          have K81 := rgX1_takeWanted K0 Hx0 e80
          cases hf
          exact ih.2.2.2.2.2.1 x0 x1 x2 x3 x4 v79 K81 Hx0 hi
        · have hf := pm_ie hf c77
          obtain ⟨k82, hf⟩ := pm_if hf
          obtain ⟨v83, e84, hf⟩ := pm_bd hf
          have K85 := rgX1_takeAndPutAgain K0 Hx0 e84
          cases hf
          exact ih.2.2.2.2.2.2.1 x0 x1 x2 x3 x4 v83 K85 Hx0 hi
      · have hf := pm_ie hf c76
        obtain ⟨k86, hf⟩ := pm_if hf
        obtain ⟨v87, e88, hf⟩ := pm_bd hf
        have K89 := rgX1_fail K0 Hx0 e88
        cases hf
        exact ih.2.2.2.2.2.1 x0 x1 x2 x3 x4 v87 K89 Hx0 hi
    refine ⟨fun x0 x1 x2 x3 x4 h K0 Hx0 hf => ?_, ?_⟩
    · obtain ⟨y, hf, hi⟩ := pm_iter_s hf
      have hf : tX1_branchByTable_196 x0 x1 x2 x3 x4 h = some y := hf
      unfold tX1_branchByTable_196 at hf
      obtain ⟨k90, hf⟩ := pm_if hf
      obtain ⟨v91, e92, hf⟩ := pm_bd hf
      have K93 := rgX1_emitBranch K0 Hx0 e92
      cases hf
      exact ih.2.2.2.2.2.2.2 x0 x1 x2 x3 v91 K93 Hx0 hi
    refine ⟨fun x0 x1 x2 x3 x4 h K0 Hx0 hf => ?_, ?_⟩
    · obtain ⟨y, hf, hi⟩ := pm_iter_s hf
      have hf : tX1_branchByTable_187 x0 x1 x2 x3 x4 h = some y := hf
      unfold tX1_branchByTable_187 at hf
      cases hf
      exact ih.2.2.2.2.2.1 x0 x1 x2 x3 x4 h K0 Hx0 hi
    refine fun x0 x1 x2 x3 h K0 Hx0 hf => ?_
    obtain ⟨y, hf, hi⟩ := pm_iter_s hf
    have hf : tX1_branchByTable_204 x0 x1 x2 x3 h = some y := hf
    unfold tX1_branchByTable_204 at hf
    obtain ⟨y94, e95, hf⟩ := pm_lt hf
    cases hf
    exact ih.2.2.1 x0 x1 x2 y94 h K0 Hx0 hi
set_option maxHeartbeats 4000000 in
set_option maxRecDepth 100000 in
theorem rgX1_branchByTable {A : Nat → Prop} {h0 h : pm_H} (K0 : pr_F A h0 h) {a0 : Nat} (Ha0 : A a0) {r : pm_H} (hf : fX1_branchByTable h a0 = some r) : pr_F A h0 r := by
  unfold fX1_branchByTable at hf
  obtain ⟨n, hn⟩ := pm_lim_iter hf
  exact (rlX1_branchByTable n).1 a0 h K0 Ha0 hn
set_option maxHeartbeats 4000000 in
set_option maxRecDepth 100000 in
theorem rgX1_control_b178 {A : Nat → Prop} {h0 h : pm_H} (K0 : pr_F A h0 h)   {r : pm_H} (hf : fX1_control_b178 h  = some r) : pr_F A h0 r := by
  unfold fX1_control_b178 at hf
  have hf := Option.some.inj hf
  subst hf
  exact K0
set_option maxHeartbeats 4000000 in
set_option maxRecDepth 100000 in
theorem rgX1_control_b171 {A : Nat → Prop} {h0 h : pm_H} (K0 : pr_F A h0 h)   {r : pm_H} (hf : fX1_control_b171 h  = some r) : pr_F A h0 r := by
  unfold fX1_control_b171 at hf
  exact rgX1_control_b178 K0  hf
set_option maxHeartbeats 4000000 in
set_option maxRecDepth 100000 in
theorem rgX1_control_b160 {A : Nat → Prop} {h0 h : pm_H} (K0 : pr_F A h0 h) {x0 : Nat} (Hx0 : A x0) {r : pm_H} (hf : fX1_control_b160 h x0 = some r) : pr_F A h0 r := by
  unfold fX1_control_b160 at hf
  obtain ⟨k104, hf⟩ := pm_if hf
  obtain ⟨v105, e106, hf⟩ := pm_bd hf
  have K107 := rgX1_die K0 Hx0 e106
  exact rgX1_control_b178 K107  hf
set_option maxHeartbeats 4000000 in
set_option maxRecDepth 100000 in
theorem rgX1_control_b153 {A : Nat → Prop} {h0 h : pm_H} (K0 : pr_F A h0 h) {x0 : Nat} (Hx0 : A x0) {r : pm_H} (hf : fX1_control_b153 h x0 = some r) : pr_F A h0 r := by
  unfold fX1_control_b153 at hf
  obtain ⟨k100, hf⟩ := pm_if hf
  obtain ⟨v101, e102, hf⟩ := pm_bd hf
  have K103 := rgX1_emitBranch K0 Hx0 e102
  exact rgX1_control_b160 K103 Hx0 hf
set_option maxHeartbeats 4000000 in
set_option maxRecDepth 100000 in
theorem rgX1_control_b145 {A : Nat → Prop} {h0 h : pm_H} (K0 : pr_F A h0 h)   {r : pm_H} (hf : fX1_control_b145 h  = some r) : pr_F A h0 r := by
  unfold fX1_control_b145 at hf
  exact rgX1_control_b178 K0  hf
set_option maxHeartbeats 4000000 in
set_option maxRecDepth 100000 in
theorem rgX1_control_b138 {A : Nat → Prop} {h0 h : pm_H} (K0 : pr_F A h0 h)   {r : pm_H} (hf : fX1_control_b138 h  = some r) : pr_F A h0 r := by
  unfold fX1_control_b138 at hf
  exact rgX1_control_b178 K0  hf
set_option maxHeartbeats 4000000 in
set_option maxRecDepth 100000 in
theorem rgX1_control_b124 {A : Nat → Prop} {h0 h : pm_H} (K0 : pr_F A h0 h)   {r : pm_H} (hf : fX1_control_b124 h  = some r) : pr_F A h0 r := by
  unfold fX1_control_b124 at hf
  exact rgX1_control_b178 K0  hf
set_option maxHeartbeats 4000000 in
set_option maxRecDepth 100000 in
theorem rgX1_control_b117 {A : Nat → Prop} {h0 h : pm_H} (K0 : pr_F A h0 h)   {r : pm_H} (hf : fX1_control_b117 h  = some r) : pr_F A h0 r := by
  unfold fX1_control_b117 at hf
  exact rgX1_control_b178 K0  hf
set_option maxHeartbeats 4000000 in
set_option maxRecDepth 100000 in
theorem rgX1_control_b110 {A : Nat → Prop} {h0 h : pm_H} (K0 : pr_F A h0 h)   {r : pm_H} (hf : fX1_control_b110 h  = some r) : pr_F A h0 r := by
  unfold fX1_control_b110 at hf
  exact rgX1_control_b178 K0  hf
set_option maxHeartbeats 4000000 in
set_option maxRecDepth 100000 in
theorem rgX1_control_b0 {A : Nat → Prop} {h0 h : pm_H} (K0 : pr_F A h0 h) {x0 : Nat} {x1 : Int32} (Hx0 : A x0) {r : pm_H} (hf : fX1_control_b0 h x0 x1 = some r) : pr_F A h0 r := by
  unfold fX1_control_b0 at hf
  by_cases c1 : x1 = 0
  · have hf := pm_it hf c1
    obtain ⟨k2, hf⟩ := pm_if hf
    obtain ⟨v3, e4, hf⟩ := pm_bd hf
    have K5 := rgX1_emitPlain K0 Hx0 e4
    obtain ⟨k6, hf⟩ := pm_if hf
    obtain ⟨v7, e8, hf⟩ := pm_bd hf
    have K9 := rgX1_die K5 Hx0 e8
    exact rgX1_control_b178 K9  hf
  have hf := pm_ie hf c1
  by_cases c10 : x1 = 1
  · have hf := pm_it hf c10
    obtain ⟨k11, hf⟩ := pm_if hf
    obtain ⟨v12, e13, hf⟩ := pm_bd hf
    have K14 := rgX1_emitPlain K0 Hx0 e13
    exact rgX1_control_b178 K14  hf
  have hf := pm_ie hf c10
  by_cases c15 : x1 = 2
  · have hf := pm_it hf c15
    obtain ⟨k16, hf⟩ := pm_if hf
    obtain ⟨v17, e18, hf⟩ := pm_bd hf
    have K19 := rgX1_beginBlock K0 Hx0 e18
    exact rgX1_control_b110 K19  hf
  have hf := pm_ie hf c15
  by_cases c20 : x1 = 3
  · have hf := pm_it hf c20
    obtain ⟨k21, hf⟩ := pm_if hf
    obtain ⟨v22, e23, hf⟩ := pm_bd hf
    have K24 := rgX1_beginBlock K0 Hx0 e23
    exact rgX1_control_b110 K24  hf
  have hf := pm_ie hf c20
  by_cases c25 : x1 = 4
  · have hf := pm_it hf c25
    obtain ⟨k26, hf⟩ := pm_if hf
    obtain ⟨v27, e28, hf⟩ := pm_bd hf
    have K29 := rgX1_beginBlock K0 Hx0 e28
    exact rgX1_control_b110 K29  hf
  have hf := pm_ie hf c25
  by_cases c30 : x1 = 5
  · have hf := pm_it hf c30
    obtain ⟨k31, hf⟩ := pm_if hf
    obtain ⟨v32, e33, hf⟩ := pm_bd hf
    have K34 := rgX1_otherwise K0 Hx0 e33
    exact rgX1_control_b117 K34  hf
  have hf := pm_ie hf c30
  by_cases c35 : x1 = 6
  · have hf := pm_it hf c35
    obtain ⟨k36, hf⟩ := pm_if hf
    obtain ⟨v37, e38, hf⟩ := pm_bd hf
    have K39 := rgX1_callByTable K0 Hx0 e38
    exact rgX1_control_b178 K39  hf
  have hf := pm_ie hf c35
  by_cases c40 : x1 = 7
  · have hf := pm_it hf c40
    obtain ⟨k41, hf⟩ := pm_if hf
    obtain ⟨v42, e43, hf⟩ := pm_bd hf
    have K44 := rgX1_callByTable K0 Hx0 e43
    exact rgX1_control_b178 K44  hf
  have hf := pm_ie hf c40
  by_cases c45 : x1 = 8
  · have hf := pm_it hf c45
    obtain ⟨k46, hf⟩ := pm_if hf
    obtain ⟨v47, e48, hf⟩ := pm_bd hf
    have K49 := rgX1_callByTable K0 Hx0 e48
    exact rgX1_control_b178 K49  hf
  have hf := pm_ie hf c45
  by_cases c50 : x1 = 9
  · have hf := pm_it hf c50
    obtain ⟨k51, hf⟩ := pm_if hf
    obtain ⟨v52, e53, hf⟩ := pm_bd hf
    have K54 := rgX1_callByTable K0 Hx0 e53
    exact rgX1_control_b178 K54  hf
  have hf := pm_ie hf c50
  by_cases c55 : x1 = 10
  · have hf := pm_it hf c55
    obtain ⟨k56, hf⟩ := pm_if hf
    obtain ⟨v57, e58, hf⟩ := pm_bd hf
    have K59 := rgX1_callByTable K0 Hx0 e58
    exact rgX1_control_b178 K59  hf
  have hf := pm_ie hf c55
  by_cases c60 : x1 = 11
  · have hf := pm_it hf c60
    obtain ⟨k61, hf⟩ := pm_if hf
    obtain ⟨v62, e63, hf⟩ := pm_bd hf
    have K64 := rgX1_endBlock K0 Hx0 e63
    exact rgX1_control_b124 K64  hf
  have hf := pm_ie hf c60
  by_cases c65 : x1 = 12
  · have hf := pm_it hf c65
    obtain ⟨k66, hf⟩ := pm_if hf
    obtain ⟨v67, e68, hf⟩ := pm_bd hf
    obtain ⟨k69, hf⟩ := pm_if hf
    obtain ⟨v70, e71, hf⟩ := pm_bd hf
    have K72 := rgX1_branch K0 Hx0 e71
    exact rgX1_control_b138 K72  hf
  have hf := pm_ie hf c65
  by_cases c73 : x1 = 13
  · have hf := pm_it hf c73
    obtain ⟨k74, hf⟩ := pm_if hf
    obtain ⟨v75, e76, hf⟩ := pm_bd hf
    obtain ⟨k77, hf⟩ := pm_if hf
    obtain ⟨v78, e79, hf⟩ := pm_bd hf
    have K80 := rgX1_branch K0 Hx0 e79
    exact rgX1_control_b138 K80  hf
  have hf := pm_ie hf c73
  by_cases c81 : x1 = 14
  · have hf := pm_it hf c81
    obtain ⟨k82, hf⟩ := pm_if hf
    obtain ⟨v83, e84, hf⟩ := pm_bd hf
    have K85 := rgX1_branchByTable K0 Hx0 e84
    exact rgX1_control_b145 K85  hf
  have hf := pm_ie hf c81
  by_cases c86 : x1 = 15
  · have hf := pm_it hf c86
    obtain ⟨k87, hf⟩ := pm_if hf
    obtain ⟨v88, e89, hf⟩ := pm_bd hf
    have K90 := rgX1_takeWanted K0 Hx0 e89
    exact rgX1_control_b153 K90 Hx0 hf
  have hf := pm_ie hf c86
  by_cases c91 : x1 = 16
  · have hf := pm_it hf c91
    obtain ⟨k92, hf⟩ := pm_if hf
    obtain ⟨v93, e94, hf⟩ := pm_bd hf
    have K95 := rgX1_callDirectly K0 Hx0 e94
    exact rgX1_control_b171 K95  hf
  have hf := pm_ie hf c91
  obtain ⟨k96, hf⟩ := pm_if hf
  obtain ⟨v97, e98, hf⟩ := pm_bd hf
  have K99 := rgX1_callByTable K0 Hx0 e98
  exact rgX1_control_b178 K99  hf
set_option maxHeartbeats 4000000 in
set_option maxRecDepth 100000 in
theorem rgX1_control {A : Nat → Prop} {h0 h : pm_H} (K0 : pr_F A h0 h) {a0 : Nat} {p1 : Int32} (Ha0 : A a0) {r : pm_H} (hf : fX1_control h a0 p1 = some r) : pr_F A h0 r := by
  unfold fX1_control at hf
  exact rgX1_control_b0 K0 Ha0 hf
set_option maxHeartbeats 4000000 in
set_option maxRecDepth 100000 in
theorem rgJ7_copyOf_59c91_b10 {A : Nat → Prop} {h0 h : pm_H} (K0 : pr_F A h0 h) {s0 : Nat} (Hs0 : A s0) {r : (Nat × pm_H)} (hf : fJ7_copyOf_59c91_b10 h s0 = some r) : pr_F A h0 r.2 ∧ A r.1 := by
  unfold fJ7_copyOf_59c91_b10 at hf
  obtain ⟨k4, hf⟩ := pm_if hf
  have hf := Option.some.inj hf
  subst hf
  exact ⟨K0, Hs0⟩
set_option maxHeartbeats 4000000 in
set_option maxRecDepth 100000 in
theorem rgJ7_copyOf_59c91_b17 {A : Nat → Prop} {h0 h : pm_H} (K0 : pr_F A h0 h) {x0 : Nat} {x1 : Int32} {s0 : Nat} (Hx0 : A x0) (Hs0 : A s0) {r : (Nat × pm_H)} (hf : fJ7_copyOf_59c91_b17 h x0 x1 s0 = some r) : pr_F A h0 r.2 ∧ A r.1 := by
  unfold fJ7_copyOf_59c91_b17 at hf
  obtain ⟨k5, hf⟩ := pm_if hf
  obtain ⟨k6, hf⟩ := pm_if hf
  obtain ⟨u7, hf⟩ := pm_if hf
  have hf := Option.some.inj hf
  subst hf
  exact ⟨(pr_cpI K0 Hs0), Hs0⟩
set_option maxHeartbeats 4000000 in
set_option maxRecDepth 100000 in
theorem rgJ7_copyOf_59c91_b0 {A : Nat → Prop} {h0 h : pm_H} (K0 : pr_F A h0 h) {x0 : Nat} {x1 : Int32} (Hx0 : A x0) {r : (Nat × pm_H)} (hf : fJ7_copyOf_59c91_b0 h x0 x1 = some r) : pr_F A h0 r.2 ∧ A r.1 := by
  unfold fJ7_copyOf_59c91_b0 at hf
  obtain ⟨k1, hf⟩ := pm_if hf
  by_cases c2 : x1 = (Int32.ofNat (pm_ln h x0))
  · have hf := pm_it hf c2
    exact rgJ7_copyOf_59c91_b10 (pr_clo K0 Hx0) (pr_n K0) hf
  · have hf := pm_ie hf c2
    obtain ⟨u3, hf⟩ := pm_if hf
    exact rgJ7_copyOf_59c91_b17 (pr_new K0) Hx0 (pr_n K0) hf
set_option maxHeartbeats 4000000 in
set_option maxRecDepth 100000 in
theorem rgJ7_copyOf_59c91 {A : Nat → Prop} {h0 h : pm_H} (K0 : pr_F A h0 h) {p1 : Nat} {p2 : Int32} (Hp1 : A p1) {r : (Nat × pm_H)} (hf : fJ7_copyOf_59c91 h p1 p2 = some r) : pr_F A h0 r.2 ∧ A r.1 := by
  unfold fJ7_copyOf_59c91 at hf
  exact rgJ7_copyOf_59c91_b0 K0 Hp1 hf
set_option maxHeartbeats 4000000 in
set_option maxRecDepth 100000 in
theorem rgJ7_copyOf_9075b_b10 {A : Nat → Prop} {h0 h : pm_H} (K0 : pr_F A h0 h) {s0 : Nat} (Hs0 : A s0) {r : (Nat × pm_H)} (hf : fJ7_copyOf_9075b_b10 h s0 = some r) : pr_F A h0 r.2 ∧ A r.1 := by
  unfold fJ7_copyOf_9075b_b10 at hf
  obtain ⟨k5, hf⟩ := pm_if hf
  have hf := Option.some.inj hf
  subst hf
  exact ⟨K0, Hs0⟩
set_option maxHeartbeats 4000000 in
set_option maxRecDepth 100000 in
theorem rgJ7_copyOf_9075b_b17 {A : Nat → Prop} {h0 h : pm_H} (K0 : pr_F A h0 h) {x0 : Nat} {x1 : Int32} {s0 : Nat} (Hx0 : A x0) (Hs0 : A s0) {r : (Nat × pm_H)} (hf : fJ7_copyOf_9075b_b17 h x0 x1 s0 = some r) : pr_F A h0 r.2 ∧ A r.1 := by
  unfold fJ7_copyOf_9075b_b17 at hf
  obtain ⟨k6, hf⟩ := pm_if hf
  obtain ⟨k7, hf⟩ := pm_if hf
  obtain ⟨u8, hf⟩ := pm_if hf
  obtain ⟨u9, hf⟩ := pm_if hf
  have hf := Option.some.inj hf
  subst hf
  exact ⟨(pr_cpI K0 Hs0), Hs0⟩
set_option maxHeartbeats 4000000 in
set_option maxRecDepth 100000 in
theorem rgJ7_copyOf_9075b_b0 {A : Nat → Prop} {h0 h : pm_H} (K0 : pr_F A h0 h) {x0 : Nat} {x1 : Int32} (Hx0 : A x0) {r : (Nat × pm_H)} (hf : fJ7_copyOf_9075b_b0 h x0 x1 = some r) : pr_F A h0 r.2 ∧ A r.1 := by
  unfold fJ7_copyOf_9075b_b0 at hf
  obtain ⟨k1, hf⟩ := pm_if hf
  by_cases c2 : x1 = (Int32.ofNat (pm_ln h x0))
  · have hf := pm_it hf c2
    obtain ⟨u3, hf⟩ := pm_if hf
    exact rgJ7_copyOf_9075b_b10 (pr_clo K0 Hx0) (pr_n K0) hf
  · have hf := pm_ie hf c2
    obtain ⟨u4, hf⟩ := pm_if hf
    exact rgJ7_copyOf_9075b_b17 (pr_new K0) Hx0 (pr_n K0) hf
set_option maxHeartbeats 4000000 in
set_option maxRecDepth 100000 in
theorem rgJ7_copyOf_9075b {A : Nat → Prop} {h0 h : pm_H} (K0 : pr_F A h0 h) {p1 : Nat} {p2 : Int32} (Hp1 : A p1) {r : (Nat × pm_H)} (hf : fJ7_copyOf_9075b h p1 p2 = some r) : pr_F A h0 r.2 ∧ A r.1 := by
  unfold fJ7_copyOf_9075b at hf
  exact rgJ7_copyOf_9075b_b0 K0 Hp1 hf
set_option maxHeartbeats 4000000 in
set_option maxRecDepth 100000 in
theorem rgJ7_copyOf_c38d5_b10 {A : Nat → Prop} {h0 h : pm_H} (K0 : pr_F A h0 h) {s0 : Nat} (Hs0 : A s0) {r : (Nat × pm_H)} (hf : fJ7_copyOf_c38d5_b10 h s0 = some r) : pr_F A h0 r.2 ∧ A r.1 := by
  unfold fJ7_copyOf_c38d5_b10 at hf
  obtain ⟨k4, hf⟩ := pm_if hf
  have hf := Option.some.inj hf
  subst hf
  exact ⟨K0, Hs0⟩
set_option maxHeartbeats 4000000 in
set_option maxRecDepth 100000 in
theorem rgJ7_copyOf_c38d5_b17 {A : Nat → Prop} {h0 h : pm_H} (K0 : pr_F A h0 h) {x0 : Nat} {x1 : Int32} {s0 : Nat} (Hx0 : A x0) (Hs0 : A s0) {r : (Nat × pm_H)} (hf : fJ7_copyOf_c38d5_b17 h x0 x1 s0 = some r) : pr_F A h0 r.2 ∧ A r.1 := by
  unfold fJ7_copyOf_c38d5_b17 at hf
  obtain ⟨k5, hf⟩ := pm_if hf
  obtain ⟨k6, hf⟩ := pm_if hf
  obtain ⟨u7, hf⟩ := pm_if hf
  have hf := Option.some.inj hf
  subst hf
  exact ⟨(pr_cpL K0 Hs0), Hs0⟩
set_option maxHeartbeats 4000000 in
set_option maxRecDepth 100000 in
theorem rgJ7_copyOf_c38d5_b0 {A : Nat → Prop} {h0 h : pm_H} (K0 : pr_F A h0 h) {x0 : Nat} {x1 : Int32} (Hx0 : A x0) {r : (Nat × pm_H)} (hf : fJ7_copyOf_c38d5_b0 h x0 x1 = some r) : pr_F A h0 r.2 ∧ A r.1 := by
  unfold fJ7_copyOf_c38d5_b0 at hf
  obtain ⟨k1, hf⟩ := pm_if hf
  by_cases c2 : x1 = (Int32.ofNat (pm_ln h x0))
  · have hf := pm_it hf c2
    exact rgJ7_copyOf_c38d5_b10 (pr_clo K0 Hx0) (pr_n K0) hf
  · have hf := pm_ie hf c2
    obtain ⟨u3, hf⟩ := pm_if hf
    exact rgJ7_copyOf_c38d5_b17 (pr_new K0) Hx0 (pr_n K0) hf
set_option maxHeartbeats 4000000 in
set_option maxRecDepth 100000 in
theorem rgJ7_copyOf_c38d5 {A : Nat → Prop} {h0 h : pm_H} (K0 : pr_F A h0 h) {p1 : Nat} {p2 : Int32} (Hp1 : A p1) {r : (Nat × pm_H)} (hf : fJ7_copyOf_c38d5 h p1 p2 = some r) : pr_F A h0 r.2 ∧ A r.1 := by
  unfold fJ7_copyOf_c38d5 at hf
  exact rgJ7_copyOf_c38d5_b0 K0 Hp1 hf
set_option maxHeartbeats 4000000 in
set_option maxRecDepth 100000 in
theorem rlX2_compile {A : Nat → Prop} {h0 : pm_H} {r : pm_H} : ∀ n : Nat, (∀ (x0 : Nat) (x1 : Nat) (h : pm_H), pr_F A h0 h → A x0 → A x1 → pm_iter sX2_compile n (.inl (x0, x1, h)) = some r → pr_F A h0 r) ∧ (∀ (x0 : Nat) (x1 : Nat) (s0 : Nat) (s1 : Nat) (h : pm_H), pr_F A h0 h → A x0 → A x1 → A s0 → A s1 → pm_iter sX2_compile n (.inr (.inl (x0, x1, s0, s1, h))) = some r → pr_F A h0 r) ∧ (∀ (x0 : Nat) (x1 : Nat) (s0 : Nat) (s1 : Nat) (h : pm_H), pr_F A h0 h → A x0 → A x1 → A s0 → A s1 → pm_iter sX2_compile n (.inr (.inr (.inl (x0, x1, s0, s1, h)))) = some r → pr_F A h0 r) ∧ (∀ (x0 : Nat) (x1 : Nat) (s0 : Nat) (s1 : Nat) (h : pm_H), pr_F A h0 h → A x0 → A x1 → A s0 → A s1 → pm_iter sX2_compile n (.inr (.inr (.inr (.inl (x0, x1, s0, s1, h))))) = some r → pr_F A h0 r) ∧ (∀ (x0 : Nat) (x1 : Nat) (s0 : Nat) (s1 : Nat) (h : pm_H), pr_F A h0 h → A x0 → A x1 → A s0 → A s1 → pm_iter sX2_compile n (.inr (.inr (.inr (.inr (.inl (x0, x1, s0, s1, h)))))) = some r → pr_F A h0 r) ∧ (∀ (x0 : Nat) (x1 : Nat) (x3 : Int32) (h : pm_H), pr_F A h0 h → A x0 → A x1 → pm_iter sX2_compile n (.inr (.inr (.inr (.inr (.inr (.inl (x0, x1, x3, h))))))) = some r → pr_F A h0 r) ∧ (∀ (x0 : Nat) (x1 : Nat) (s0 : Nat) (s1 : Nat) (h : pm_H), pr_F A h0 h → A x0 → A x1 → A s0 → A s1 → pm_iter sX2_compile n (.inr (.inr (.inr (.inr (.inr (.inr (.inl (x0, x1, s0, s1, h)))))))) = some r → pr_F A h0 r) ∧ (∀ (s0 : Nat) (s1 : Nat) (h : pm_H), pr_F A h0 h → A s0 → A s1 → pm_iter sX2_compile n (.inr (.inr (.inr (.inr (.inr (.inr (.inr (s0, s1, h)))))))) = some r → pr_F A h0 r) := by
  intro n
  induction n with
  | zero => exact ⟨fun _ _ _ _ _ _ hf => (by cases hf), fun _ _ _ _ _ _ _ _ _ _ hf => (by cases hf), fun _ _ _ _ _ _ _ _ _ _ hf => (by cases hf), fun _ _ _ _ _ _ _ _ _ _ hf => (by cases hf), fun _ _ _ _ _ _ _ _ _ _ hf => (by cases hf), fun _ _ _ _ _ _ _ hf => (by cases hf), fun _ _ _ _ _ _ _ _ _ _ hf => (by cases hf), fun _ _ _ _ _ _ hf => (by cases hf)⟩
  | succ n ih =>
    refine ⟨fun x0 x1 h K0 Hx0 Hx1 hf => ?_, ?_⟩
    · obtain ⟨y, hf, hi⟩ := pm_iter_s hf
      have hf : tX2_compile_0 x0 x1 h = some y := hf
      unfold tX2_compile_0 at hf
      obtain ⟨k1, hf⟩ := pm_if hf
      obtain ⟨y2, e3, hf⟩ := pm_lt hf
      obtain ⟨k4, hf⟩ := pm_if hf
      by_cases c5 : y2 ≤ (pm_I (pm_setI h x1 6 1) x0 0)
      · have hf := pm_it hf c5
        obtain ⟨y6, e7, hf⟩ := pm_lt hf
        obtain ⟨y8, e9, hf⟩ := pm_lt hf
        obtain ⟨u10, hf⟩ := pm_if hf
        cases hf
        exact ih.2.1 x0 x1 (pm_sz (pm_setI (pm_setR (pm_setI h x1 6 1) x0 1 (some x1)) x0 2 y6)) x0 (pm_new (pm_setI (pm_setR (pm_setI h x1 6 1) x0 1 (some x1)) x0 2 y6) 34 y8.toNatClampNeg) (pr_new (pr_sI (pr_sR (pr_sI K0 Hx1) Hx0 Hx1) Hx0)) Hx0 Hx1 (pr_n (pr_sI (pr_sR (pr_sI K0 Hx1) Hx0 Hx1) Hx0)) Hx0 hi
      · have hf := pm_ie hf c5
        have hf := Option.some.inj hf
        subst hf
        have hi := Option.some.inj (show some _ = some r from hi)
        subst hi
        exact (pr_sI K0 Hx1)
    refine ⟨fun x0 x1 s0 s1 h K0 Hx0 Hx1 Hs0 Hs1 hf => ?_, ?_⟩
    · obtain ⟨y, hf, hi⟩ := pm_iter_s hf
      have hf : tX2_compile_43 x0 x1 s0 s1 h = some y := hf
      unfold tX2_compile_43 at hf
      obtain ⟨k11, hf⟩ := pm_if hf
      obtain ⟨k12, hf⟩ := pm_if hf
      obtain ⟨y13, e14, hf⟩ := pm_lt hf
      obtain ⟨u15, hf⟩ := pm_if hf
      cases hf
      exact ih.2.2.1 x0 x1 (pm_sz (pm_setR h s1 3 (some s0))) x0 (pm_new (pm_setR h s1 3 (some s0)) 35 y13.toNatClampNeg) (pr_new (pr_sR K0 Hs1 Hs0)) Hx0 Hx1 (pr_n (pr_sR K0 Hs1 Hs0)) Hx0 hi
    refine ⟨fun x0 x1 s0 s1 h K0 Hx0 Hx1 Hs0 Hs1 hf => ?_, ?_⟩
    · obtain ⟨y, hf, hi⟩ := pm_iter_s hf
      have hf : tX2_compile_53 x0 x1 s0 s1 h = some y := hf
      unfold tX2_compile_53 at hf
      obtain ⟨k16, hf⟩ := pm_if hf
      obtain ⟨k17, hf⟩ := pm_if hf
      obtain ⟨y18, e19, hf⟩ := pm_lt hf
      obtain ⟨u20, hf⟩ := pm_if hf
      cases hf
      exact ih.2.2.2.1 x0 x1 (pm_sz (pm_setR h s1 6 (some s0))) x0 (pm_new (pm_setR h s1 6 (some s0)) 34 y18.toNatClampNeg) (pr_new (pr_sR K0 Hs1 Hs0)) Hx0 Hx1 (pr_n (pr_sR K0 Hs1 Hs0)) Hx0 hi
    refine ⟨fun x0 x1 s0 s1 h K0 Hx0 Hx1 Hs0 Hs1 hf => ?_, ?_⟩
    · obtain ⟨y, hf, hi⟩ := pm_iter_s hf
      have hf : tX2_compile_63 x0 x1 s0 s1 h = some y := hf
      unfold tX2_compile_63 at hf
      obtain ⟨k21, hf⟩ := pm_if hf
      obtain ⟨k22, hf⟩ := pm_if hf
      obtain ⟨y23, e24, hf⟩ := pm_lt hf
      obtain ⟨u25, hf⟩ := pm_if hf
      cases hf
      exact ih.2.2.2.2.1 x0 x1 (pm_sz (pm_setR h s1 8 (some s0))) x0 (pm_new (pm_setR h s1 8 (some s0)) 32 y23.toNatClampNeg) (pr_new (pr_sR K0 Hs1 Hs0)) Hx0 Hx1 (pr_n (pr_sR K0 Hs1 Hs0)) Hx0 hi
    refine ⟨fun x0 x1 s0 s1 h K0 Hx0 Hx1 Hs0 Hs1 hf => ?_, ?_⟩
    · obtain ⟨y, hf, hi⟩ := pm_iter_s hf
      have hf : tX2_compile_73 x0 x1 s0 s1 h = some y := hf
      unfold tX2_compile_73 at hf
      obtain ⟨k26, hf⟩ := pm_if hf
      obtain ⟨k27, hf⟩ := pm_if hf
      obtain ⟨v28, e29, hf⟩ := pm_bd hf
      have K30 := rgX2_markTargets (pr_sI (pr_sI (pr_sI (pr_sI (pr_sI (pr_sR K0 Hs1 Hs0) Hx0) Hx0) Hx0) Hx0) Hx0) Hx0 e29
      cases hf
      exact ih.2.2.2.2.2.1 x0 x1 0 v28 K30 Hx0 Hx1 hi
    refine ⟨fun x0 x1 x3 h K0 Hx0 Hx1 hf => ?_, ?_⟩
    · obtain ⟨y, hf, hi⟩ := pm_iter_s hf
      have hf : tX2_compile_107 x0 x1 x3 h = some y := hf
      unfold tX2_compile_107 at hf
      obtain ⟨k31, hf⟩ := pm_if hf
      by_cases c32 : (pm_I h x1 2) ≤ x3
      · have hf := pm_it hf c32
        obtain ⟨k33, hf⟩ := pm_if hf
        by_cases c34 : (pm_I h x0 5) = 0
        · have hf := pm_it hf c34
          obtain ⟨v35, e36, hf⟩ := pm_bd hf
          have K37 := rgX2_aimBranches K0 Hx0 e36
          obtain ⟨k38, hf⟩ := pm_if hf
          obtain ⟨y39, e40, hf⟩ := pm_lt hf
          obtain ⟨v41, e42, hf⟩ := pm_bd hf
          obtain ⟨v43, e44, hf⟩ := pm_bd hf
          have K45 := rgJ7_copyOf_59c91 (pr_sI K37 Hx0) (pr_c (pr_sI K37 Hx0) Hx0 e42) e44
          cases hf
          exact ih.2.2.2.2.2.2.1 x0 x1 v43.1 x1 v43.2 K45.1 Hx0 Hx1 K45.2 Hx1 hi
        · have hf := pm_ie hf c34
          have hf := Option.some.inj hf
          subst hf
          have hi := Option.some.inj (show some _ = some r from hi)
          subst hi
          exact K0
      · have hf := pm_ie hf c32
        obtain ⟨k46, hf⟩ := pm_if hf
        obtain ⟨v47, e48, hf⟩ := pm_bd hf
        have K49 := rgX2_translate K0 Hx0 e48
        obtain ⟨y50, e51, hf⟩ := pm_lt hf
        obtain ⟨y52, e53, hf⟩ := pm_lt hf
        cases hf
        exact ih.2.2.2.2.2.1 x0 x1 y52 v47.2 K49 Hx0 Hx1 hi
    refine ⟨fun x0 x1 s0 s1 h K0 Hx0 Hx1 Hs0 Hs1 hf => ?_, ?_⟩
    · obtain ⟨y, hf, hi⟩ := pm_iter_s hf
      have hf : tX2_compile_169 x0 x1 s0 s1 h = some y := hf
      unfold tX2_compile_169 at hf
      obtain ⟨k54, hf⟩ := pm_if hf
      obtain ⟨k55, hf⟩ := pm_if hf
      obtain ⟨v56, e57, hf⟩ := pm_bd hf
      obtain ⟨v58, e59, hf⟩ := pm_bd hf
      have K60 := rgJ7_copyOf_c38d5 (pr_sR K0 Hs1 Hs0) (pr_c (pr_sR K0 Hs1 Hs0) Hx0 e57) e59
      cases hf
      exact ih.2.2.2.2.2.2.2 v58.1 x1 v58.2 K60.1 K60.2 Hx1 hi
    refine fun s0 s1 h K0 Hs0 Hs1 hf => ?_
    obtain ⟨y, hf, hi⟩ := pm_iter_s hf
    have hf : tX2_compile_184 s0 s1 h = some y := hf
    unfold tX2_compile_184 at hf
    obtain ⟨k61, hf⟩ := pm_if hf
    have hf := Option.some.inj hf
    subst hf
    have hi := Option.some.inj (show some _ = some r from hi)
    subst hi
    exact (pr_sR K0 Hs1 Hs0)
set_option maxHeartbeats 4000000 in
set_option maxRecDepth 100000 in
theorem rgX2_compile {A : Nat → Prop} {h0 h : pm_H} (K0 : pr_F A h0 h) {a0 : Nat} {p1 : Nat} (Ha0 : A a0) (Hp1 : A p1) {r : pm_H} (hf : fX2_compile h a0 p1 = some r) : pr_F A h0 r := by
  unfold fX2_compile at hf
  obtain ⟨n, hn⟩ := pm_lim_iter hf
  exact (rlX2_compile n).1 a0 p1 h K0 Ha0 Hp1 hn
set_option maxHeartbeats 4000000 in
set_option maxRecDepth 100000 in
theorem rlX5_settle {A : Nat → Prop} {h0 : pm_H} {r : pm_H} : ∀ n : Nat, (∀ (x0 : Nat) (h : pm_H), pr_F A h0 h → A x0 → pm_iter sX5_settle n (.inl (x0, h)) = some r → pr_F A h0 r) ∧ (∀ (x0 : Nat) (x1 : Int32) (h : pm_H), pr_F A h0 h → A x0 → pm_iter sX5_settle n (.inr (.inl (x0, x1, h))) = some r → pr_F A h0 r) ∧ (∀ (x0 : Nat) (x1 : Int32) (h : pm_H), pr_F A h0 h → A x0 → pm_iter sX5_settle n (.inr (.inr (.inl (x0, x1, h)))) = some r → pr_F A h0 r) ∧ (∀ (x0 : Nat) (x1 : Int32) (h : pm_H), pr_F A h0 h → A x0 → pm_iter sX5_settle n (.inr (.inr (.inr (x0, x1, h)))) = some r → pr_F A h0 r) := by
  intro n
  induction n with
  | zero => exact ⟨fun _ _ _ _ hf => (by cases hf), fun _ _ _ _ _ hf => (by cases hf), fun _ _ _ _ _ hf => (by cases hf), fun _ _ _ _ _ hf => (by cases hf)⟩
  | succ n ih =>
    refine ⟨fun x0 h K0 Hx0 hf => ?_, ?_⟩
    · obtain ⟨y, hf, hi⟩ := pm_iter_s hf
      have hf : tX5_settle_0 x0 h = some y := hf
      unfold tX5_settle_0 at hf
      cases hf
      exact ih.2.1 x0 0 h K0 Hx0 hi
    refine ⟨fun x0 x1 h K0 Hx0 hf => ?_, ?_⟩
    · obtain ⟨y, hf, hi⟩ := pm_iter_s hf
      have hf : tX5_settle_2 x0 x1 h = some y := hf
      unfold tX5_settle_2 at hf
      by_cases c1 : 1000000 ≤ x1
      · have hf := pm_it hf c1
        have hf := Option.some.inj hf
        subst hf
        have hi := Option.some.inj (show some _ = some r from hi)
        subst hi
        exact K0
      · have hf := pm_ie hf c1
        obtain ⟨k2, hf⟩ := pm_if hf
        by_cases c3 : (pm_I h x0 0) = 1
        · have hf := pm_it hf c3
          obtain ⟨v4, e5, hf⟩ := pm_bd hf
          obtain ⟨k6, hf⟩ := pm_if hf
          by_cases c7 : (pm_I h v4 6) = 0
          · have hf := pm_it hf c7
            cases hf
            exact ih.2.2.1 x0 x1 h K0 Hx0 hi
          · have hf := pm_ie hf c7
            by_cases c8 : (pm_I h v4 7) = 0
            · have hf := pm_it hf c8
              cases hf
              exact ih.2.2.2 x0 x1 h K0 Hx0 hi
            · have hf := pm_ie hf c8
              obtain ⟨v9, e10, hf⟩ := pm_bd hf
              obtain ⟨k11, hf⟩ := pm_if hf
              by_cases c12 : (pm_I h v9 6) = 0
              · have hf := pm_it hf c12
                obtain ⟨v13, e14, hf⟩ := pm_bd hf
                obtain ⟨k15, hf⟩ := pm_if hf
                obtain ⟨v16, e17, hf⟩ := pm_bd hf
                have K18 := rgX2_compile K0 (pr_c K0 Hx0 e14) (pr_c K0 (pr_c K0 Hx0 e5) e10) e17
                cases hf
                exact ih.2.2.2 x0 x1 v16 K18 Hx0 hi
              · have hf := pm_ie hf c12
                cases hf
                exact ih.2.2.2 x0 x1 h K0 Hx0 hi
        · have hf := pm_ie hf c3
          have hf := Option.some.inj hf
          subst hf
          have hi := Option.some.inj (show some _ = some r from hi)
          subst hi
          exact K0
    refine ⟨fun x0 x1 h K0 Hx0 hf => ?_, ?_⟩
    · obtain ⟨y, hf, hi⟩ := pm_iter_s hf
      have hf : tX5_settle_67 x0 x1 h = some y := hf
      unfold tX5_settle_67 at hf
      obtain ⟨k19, hf⟩ := pm_if hf
      obtain ⟨v20, e21, hf⟩ := pm_bd hf
      obtain ⟨k22, hf⟩ := pm_if hf
      by_cases c23 : (pm_I h v20 7) = 0
      · have hf := pm_it hf c23
        obtain ⟨v24, e25, hf⟩ := pm_bd hf
        obtain ⟨v26, e27, hf⟩ := pm_bd hf
        by_cases c28 : v26 = 5
        · have hf := pm_it hf c28
          obtain ⟨v29, e30, hf⟩ := pm_bd hf
          obtain ⟨y31, e32, hf⟩ := pm_lt hf
          cases hf
          exact ih.2.1 x0 y31 (pm_setI h v20 3 v29) (pr_sI K0 (pr_c K0 Hx0 e21)) Hx0 hi
        · have hf := pm_ie hf c28
          by_cases c33 : v26 = 11
          · have hf := pm_it hf c33
            obtain ⟨v34, e35, hf⟩ := pm_bd hf
            have K36 := rgX5_leave K0 Hx0 e35
            obtain ⟨y37, e38, hf⟩ := pm_lt hf
            cases hf
            exact ih.2.1 x0 y37 v34 K36 Hx0 hi
          · have hf := pm_ie hf c33
            have hf := Option.some.inj hf
            subst hf
            have hi := Option.some.inj (show some _ = some r from hi)
            subst hi
            exact K0
      · have hf := pm_ie hf c23
        obtain ⟨y39, e40, hf⟩ := pm_lt hf
        obtain ⟨v41, e42, hf⟩ := pm_bd hf
        obtain ⟨v43, e44, hf⟩ := pm_bd hf
        by_cases c45 : v43 = 0
        · have hf := pm_it hf c45
          obtain ⟨y46, e47, hf⟩ := pm_lt hf
          obtain ⟨v48, e49, hf⟩ := pm_bd hf
          have K50 := rgX5_goFreely (pr_sI K0 (pr_c K0 Hx0 e21)) Hx0 e49
          obtain ⟨y51, e52, hf⟩ := pm_lt hf
          cases hf
          exact ih.2.1 x0 y51 v48 K50 Hx0 hi
        · have hf := pm_ie hf c45
          have hf := Option.some.inj hf
          subst hf
          have hi := Option.some.inj (show some _ = some r from hi)
          subst hi
          exact K0
    refine fun x0 x1 h K0 Hx0 hf => ?_
    obtain ⟨y, hf, hi⟩ := pm_iter_s hf
    have hf : tX5_settle_63 x0 x1 h = some y := hf
    unfold tX5_settle_63 at hf
    obtain ⟨k53, hf⟩ := pm_if hf
    obtain ⟨v54, e55, hf⟩ := pm_bd hf
    have K56 := rgX5_chooseCode K0 Hx0 e55
    cases hf
    exact ih.2.2.1 x0 x1 v54 K56 Hx0 hi
set_option maxHeartbeats 4000000 in
set_option maxRecDepth 100000 in
theorem rgX5_settle {A : Nat → Prop} {h0 h : pm_H} (K0 : pr_F A h0 h) {a0 : Nat} (Ha0 : A a0) {r : pm_H} (hf : fX5_settle h a0 = some r) : pr_F A h0 r := by
  unfold fX5_settle at hf
  obtain ⟨n, hn⟩ := pm_lim_iter hf
  exact (rlX5_settle n).1 a0 h K0 Ha0 hn
set_option maxHeartbeats 4000000 in
set_option maxRecDepth 100000 in
theorem rlX9_functionType {A : Nat → Prop} {h0 : pm_H} {r : pm_H} : ∀ n : Nat, (∀ (x0 : Nat) (h : pm_H), pr_F A h0 h → A x0 → pm_iter sX9_functionType n (.inl (x0, h)) = some r → pr_F A h0 r) ∧ (∀ (x0 : Nat) (x1 : Int32) (x2 : Int32) (h : pm_H), pr_F A h0 h → A x0 → pm_iter sX9_functionType n (.inr (.inl (x0, x1, x2, h))) = some r → pr_F A h0 r) ∧ (∀ (s0 : Nat) (s1 : Int32) (s2 : Nat) (h : pm_H), pr_F A h0 h → A s0 → A s2 → pm_iter sX9_functionType n (.inr (.inr (.inl (s0, s1, s2, h)))) = some r → pr_F A h0 r) ∧ (∀ (x0 : Nat) (x1 : Int32) (x2 : Int32) (x3 : Int64) (x5 : Int64) (h : pm_H), pr_F A h0 h → A x0 → pm_iter sX9_functionType n (.inr (.inr (.inr (x0, x1, x2, x3, x5, h)))) = some r → pr_F A h0 r) := by
  intro n
  induction n with
  | zero => exact ⟨fun _ _ _ _ hf => (by cases hf), fun _ _ _ _ _ _ hf => (by cases hf), fun _ _ _ _ _ _ _ hf => (by cases hf), fun _ _ _ _ _ _ _ _ hf => (by cases hf)⟩
  | succ n ih =>
    refine ⟨fun x0 h K0 Hx0 hf => ?_, ?_⟩
    · obtain ⟨y, hf, hi⟩ := pm_iter_s hf
      have hf : tX9_functionType_0 x0 h = some y := hf
      unfold tX9_functionType_0 at hf
      obtain ⟨k1, hf⟩ := pm_if hf
      obtain ⟨v2, e3, hf⟩ := pm_bd hf
      have K4 := rgX9_next K0 Hx0 e3
      by_cases c5 : v2.1 = 96
      · have hf := pm_it hf c5
        cases hf
        exact ih.2.1 x0 2 0 v2.2 K4 Hx0 hi
      · have hf := pm_ie hf c5
        obtain ⟨k6, hf⟩ := pm_if hf
        obtain ⟨v7, e8, hf⟩ := pm_bd hf
        have K9 := rgX9_fail K4 Hx0 e8
        cases hf
        exact ih.2.1 x0 2 0 v7 K9 Hx0 hi
    refine ⟨fun x0 x1 x2 h K0 Hx0 hf => ?_, ?_⟩
    · obtain ⟨y, hf, hi⟩ := pm_iter_s hf
      have hf : tX9_functionType_25 x0 x1 x2 h = some y := hf
      unfold tX9_functionType_25 at hf
      by_cases c10 : 2 ≤ x2
      · have hf := pm_it hf c10
        obtain ⟨k11, hf⟩ := pm_if hf
        by_cases c12 : (pm_I h x0 15) < 0
        · have hf := pm_it hf c12
          have hf := Option.some.inj hf
          subst hf
          have hi := Option.some.inj (show some _ = some r from hi)
          subst hi
          exact K0
        · have hf := pm_ie hf c12
          obtain ⟨v13, e14, hf⟩ := pm_bd hf
          obtain ⟨k15, hf⟩ := pm_if hf
          obtain ⟨v16, e17, hf⟩ := pm_bd hf
          obtain ⟨k18, hf⟩ := pm_if hf
          by_cases c19 : (Int32.ofNat (pm_ln h v16)) ≤ (pm_I h x0 15)
          · have hf := pm_it hf c19
            have hf := Option.some.inj hf
            subst hf
            have hi := Option.some.inj (show some _ = some r from hi)
            subst hi
            exact K0
          · have hf := pm_ie hf c19
            obtain ⟨v20, e21, hf⟩ := pm_bd hf
            obtain ⟨v22, e23, hf⟩ := pm_bd hf
            have K24 := rgJ7_copyOf_59c91 K0 (pr_c K0 Hx0 e21) e23
            cases hf
            exact ih.2.2.1 v22.1 (pm_I h x0 15) v16 v22.2 K24.1 K24.2 (pr_c K0 (pr_c K0 Hx0 e14) e17) hi
      · have hf := pm_ie hf c10
        obtain ⟨k25, hf⟩ := pm_if hf
        obtain ⟨v26, e27, hf⟩ := pm_bd hf
        have K28 := rgX9_number K0 Hx0 e27
        by_cases c29 : v26.1 ≤ 16
        · have hf := pm_it hf c29
          cases hf
          exact ih.2.2.2 x0 x1 x2 v26.1 0 v26.2 K28 Hx0 hi
        · have hf := pm_ie hf c29
          obtain ⟨k30, hf⟩ := pm_if hf
          obtain ⟨v31, e32, hf⟩ := pm_bd hf
          have K33 := rgX9_exceedLimit K28 Hx0 e32
          cases hf
          exact ih.2.2.2 x0 x1 x2 v26.1 0 v31 K33 Hx0 hi
    refine ⟨fun s0 s1 s2 h K0 Hs0 Hs2 hf => ?_, ?_⟩
    · obtain ⟨y, hf, hi⟩ := pm_iter_s hf
      have hf : tX9_functionType_164 s0 s1 s2 h = some y := hf
      unfold tX9_functionType_164 at hf
      obtain ⟨k34, hf⟩ := pm_if hf
      obtain ⟨k35, hf⟩ := pm_if hf
      obtain ⟨u36, hf⟩ := pm_if hf
      have hf := Option.some.inj hf
      subst hf
      have hi := Option.some.inj (show some _ = some r from hi)
      subst hi
      exact (pr_sR K0 Hs2 Hs0)
    refine fun x0 x1 x2 x3 x5 h K0 Hx0 hf => ?_
    obtain ⟨y, hf, hi⟩ := pm_iter_s hf
    have hf : tX9_functionType_52 x0 x1 x2 x3 x5 h = some y := hf
    unfold tX9_functionType_52 at hf
    by_cases c37 : x3 ≤ x5
    · have hf := pm_it hf c37
      obtain ⟨k38, hf⟩ := pm_if hf
      obtain ⟨v39, e40, hf⟩ := pm_bd hf
      obtain ⟨y41, e42, hf⟩ := pm_lt hf
      obtain ⟨k43, hf⟩ := pm_if hf
      obtain ⟨u44, hf⟩ := pm_if hf
      obtain ⟨y45, e46, hf⟩ := pm_lt hf
      cases hf
      exact ih.2.1 x0 x1 y45 (pm_setI h v39 x2.toNatClampNeg y41) (pr_sI K0 (pr_c K0 Hx0 e40)) Hx0 hi
    · have hf := pm_ie hf c37
      obtain ⟨k47, hf⟩ := pm_if hf
      by_cases c48 : (pm_I h x0 3) = 0
      · have hf := pm_it hf c48
        obtain ⟨v49, e50, hf⟩ := pm_bd hf
        have K51 := rgX9_valueType K0 Hx0 e50
        obtain ⟨k52, hf⟩ := pm_if hf
        obtain ⟨v53, e54, hf⟩ := pm_bd hf
        obtain ⟨v55, e56, hf⟩ := pm_bd hf
        have K57 := rgX12_setItem K51 (pr_c K51 Hx0 e54) e56
        obtain ⟨k58, hf⟩ := pm_if hf
        obtain ⟨v59, e60, hf⟩ := pm_bd hf
        obtain ⟨k61, hf⟩ := pm_if hf
        obtain ⟨y62, e63, hf⟩ := pm_lt hf
        obtain ⟨y64, e65, hf⟩ := pm_lt hf
        obtain ⟨y66, e67, hf⟩ := pm_lt hf
        cases hf
        exact ih.2.2.2 x0 y64 x2 x3 y66 v55 K57 Hx0 hi
      · have hf := pm_ie hf c48
        obtain ⟨v68, e69, hf⟩ := pm_bd hf
        obtain ⟨y70, e71, hf⟩ := pm_lt hf
        obtain ⟨k72, hf⟩ := pm_if hf
        obtain ⟨u73, hf⟩ := pm_if hf
        obtain ⟨y74, e75, hf⟩ := pm_lt hf
        cases hf
        exact ih.2.1 x0 x1 y74 (pm_setI h v68 x2.toNatClampNeg y70) (pr_sI K0 (pr_c K0 Hx0 e69)) Hx0 hi
set_option maxHeartbeats 4000000 in
set_option maxRecDepth 100000 in
theorem rgX9_functionType {A : Nat → Prop} {h0 h : pm_H} (K0 : pr_F A h0 h) {a0 : Nat} (Ha0 : A a0) {r : pm_H} (hf : fX9_functionType h a0 = some r) : pr_F A h0 r := by
  unfold fX9_functionType at hf
  obtain ⟨n, hn⟩ := pm_lim_iter hf
  exact (rlX9_functionType n).1 a0 h K0 Ha0 hn
set_option maxHeartbeats 4000000 in
set_option maxRecDepth 100000 in
theorem rgX11_grow_b127 {A : Nat → Prop} {h0 h : pm_H} (K0 : pr_F A h0 h) {x0 : Nat} {x1 : Int32} {x2 : Int64} {x4 : Int32} {x5 : Int32} {x8 : Int32} {s0 : Nat} {s1 : Int32} {s2 : Nat} (Hx0 : A x0) (Hs0 : A s0) (Hs2 : A s2) {r : (Int32 × pm_H)} (hf : fX11_grow_b127 h x0 x1 x2 x4 x5 x8 s0 s1 s2 = some r) : pr_F A h0 r.2 := by
  unfold fX11_grow_b127 at hf
  obtain ⟨k51, hf⟩ := pm_if hf
  obtain ⟨k52, hf⟩ := pm_if hf
  obtain ⟨u53, hf⟩ := pm_if hf
  obtain ⟨k54, hf⟩ := pm_if hf
  obtain ⟨y55, e56, hf⟩ := pm_lt hf
  obtain ⟨v57, e58, hf⟩ := pm_bd hf
  obtain ⟨v59, e60, hf⟩ := pm_bd hf
  have K61 := rgX12_setItem (pr_sI (pr_sR K0 Hs2 Hs0) Hx0) (pr_c (pr_sI (pr_sR K0 Hs2 Hs0) Hx0) Hx0 e58) e60
  obtain ⟨k62, hf⟩ := pm_if hf
  obtain ⟨v63, e64, hf⟩ := pm_bd hf
  have K65 := rgX11_fill K61 Hx0 e64
  have hf := Option.some.inj hf
  subst hf
  exact K65
set_option maxHeartbeats 4000000 in
set_option maxRecDepth 100000 in
theorem rgX11_grow_b37 {A : Nat → Prop} {h0 h : pm_H} (K0 : pr_F A h0 h) {x0 : Nat} {x1 : Int32} {x2 : Int64} {x4 : Int32} {x5 : Int32} {s0 : Int64} (Hx0 : A x0) {r : (Int32 × pm_H)} (hf : fX11_grow_b37 h x0 x1 x2 x4 x5 s0 = some r) : pr_F A h0 r.2 := by
  unfold fX11_grow_b37 at hf
  by_cases c13 : x1 < 0
  · have hf := pm_it hf c13
    have hf := Option.some.inj hf
    subst hf
    exact K0
  · have hf := pm_ie hf c13
    obtain ⟨k14, hf⟩ := pm_if hf
    obtain ⟨v15, e16, hf⟩ := pm_bd hf
    obtain ⟨k17, hf⟩ := pm_if hf
    by_cases c18 : (Int32.ofNat (pm_ln h v15)) ≤ x1
    · have hf := pm_it hf c18
      have hf := Option.some.inj hf
      subst hf
      exact K0
    · have hf := pm_ie hf c18
      by_cases c19 : ((pm_I h x0 1).toInt64) < x2
      · have hf := pm_it hf c19
        have hf := Option.some.inj hf
        subst hf
        exact K0
      · have hf := pm_ie hf c19
        by_cases c20 : (x5.toInt64 + x2) ≤ s0
        · have hf := pm_it hf c20
          obtain ⟨y21, e22, hf⟩ := pm_lt hf
          obtain ⟨u23, hf⟩ := pm_if hf
          obtain ⟨v24, e25, hf⟩ := pm_bd hf
          obtain ⟨k26, hf⟩ := pm_if hf
          by_cases c27 : y21 ≤ (Int32.ofNat (pm_ln h v24))
          · have hf := pm_it hf c27
            obtain ⟨y28, e29, hf⟩ := pm_lt hf
            obtain ⟨v30, e31, hf⟩ := pm_bd hf
            obtain ⟨v32, e33, hf⟩ := pm_bd hf
            have K34 := rgX12_setItem (pr_sI K0 Hx0) (pr_c (pr_sI K0 Hx0) Hx0 e31) e33
            obtain ⟨k35, hf⟩ := pm_if hf
            obtain ⟨v36, e37, hf⟩ := pm_bd hf
            have K38 := rgX11_fill K34 Hx0 e37
            have hf := Option.some.inj hf
            subst hf
            exact K38
          · have hf := pm_ie hf c27
            obtain ⟨y39, e40, hf⟩ := pm_lt hf
            obtain ⟨y41, e42, hf⟩ := pm_lt hf
            obtain ⟨y43, e44, hf⟩ := pm_lt hf
            obtain ⟨u45, hf⟩ := pm_if hf
            obtain ⟨v46, e47, hf⟩ := pm_bd hf
            obtain ⟨v48, e49, hf⟩ := pm_bd hf
            have K50 := rgJ7_copyOf_59c91 K0 (pr_c K0 (pr_c K0 Hx0 e16) e47) e49
            exact rgX11_grow_b127 K50.1 Hx0 K50.2 (pr_c K0 Hx0 e16) hf
        · have hf := pm_ie hf c20
          have hf := Option.some.inj hf
          subst hf
          exact K0
set_option maxHeartbeats 4000000 in
set_option maxRecDepth 100000 in
theorem rgX11_grow_b0 {A : Nat → Prop} {h0 h : pm_H} (K0 : pr_F A h0 h) {x0 : Nat} {x1 : Int32} {x2 : Int64} {x4 : Int32} (Hx0 : A x0) {r : (Int32 × pm_H)} (hf : fX11_grow_b0 h x0 x1 x2 x4 = some r) : pr_F A h0 r.2 := by
  unfold fX11_grow_b0 at hf
  obtain ⟨k1, hf⟩ := pm_if hf
  obtain ⟨v2, e3, hf⟩ := pm_bd hf
  obtain ⟨v4, e5, hf⟩ := pm_bd hf
  obtain ⟨v6, e7, hf⟩ := pm_bd hf
  obtain ⟨v8, e9, hf⟩ := pm_bd hf
  by_cases c10 : 0 ≤ v8
  · have hf := pm_it hf c10
    obtain ⟨v11, e12, hf⟩ := pm_bd hf
    exact rgX11_grow_b37 K0 Hx0 hf
  · have hf := pm_ie hf c10
    exact rgX11_grow_b37 K0 Hx0 hf
set_option maxHeartbeats 4000000 in
set_option maxRecDepth 100000 in
theorem rgX11_grow {A : Nat → Prop} {h0 h : pm_H} (K0 : pr_F A h0 h) {a0 : Nat} {p1 : Int32} {p2 : Int64} {p3 : Int32} (Ha0 : A a0) {r : (Int32 × pm_H)} (hf : fX11_grow h a0 p1 p2 p3 = some r) : pr_F A h0 r.2 := by
  unfold fX11_grow at hf
  exact rgX11_grow_b0 K0 Ha0 hf
set_option maxHeartbeats 4000000 in
set_option maxRecDepth 100000 in
theorem rlX5_begin {A : Nat → Prop} {h0 : pm_H} {r : pm_H} : ∀ n : Nat, (∀ (x0 : Nat) (x1 : Int32) (x2 : Nat) (x3 : Int32) (h : pm_H), pr_F A h0 h → A x0 → A x2 → pm_iter sX5_begin n (.inl (x0, x1, x2, x3, h)) = some r → pr_F A h0 r) ∧ (∀ (x0 : Nat) (x1 : Int32) (x2 : Nat) (x3 : Int32) (x4 : Nat) (x5 : Int32) (h : pm_H), pr_F A h0 h → A x0 → A x2 → A x4 → pm_iter sX5_begin n (.inr (.inl (x0, x1, x2, x3, x4, x5, h))) = some r → pr_F A h0 r) ∧ (∀ (h : pm_H), pr_F A h0 h → pm_iter sX5_begin n (.inr (.inr h)) = some r → pr_F A h0 r) := by
  intro n
  induction n with
  | zero => exact ⟨fun _ _ _ _ _ _ _ _ hf => (by cases hf), fun _ _ _ _ _ _ _ _ _ _ _ hf => (by cases hf), fun  _ _ hf => (by cases hf)⟩
  | succ n ih =>
    refine ⟨fun x0 x1 x2 x3 h K0 Hx0 Hx2 hf => ?_, ?_⟩
    · obtain ⟨y, hf, hi⟩ := pm_iter_s hf
      have hf : tX5_begin_0 x0 x1 x2 x3 h = some y := hf
      unfold tX5_begin_0 at hf
      obtain ⟨k1, hf⟩ := pm_if hf
      obtain ⟨v2, e3, hf⟩ := pm_bd hf
      have K4 := rgX5_clearFrames K0 Hx0 e3
      obtain ⟨k5, hf⟩ := pm_if hf
      obtain ⟨v6, e7, hf⟩ := pm_bd hf
      obtain ⟨k8, hf⟩ := pm_if hf
      obtain ⟨v9, e10, hf⟩ := pm_bd hf
      have K11 := rgX10_shapeOf (pr_sI (pr_sI K4 Hx0) Hx0) (pr_c (pr_sI (pr_sI K4 Hx0) Hx0) Hx0 e7) e10
      cases hf
      exact ih.2.1 x0 x1 x2 x3 v9 0 (pm_setI (pm_setI v2 x0 0 1) x0 2 0) (pr_sI (pr_sI K4 Hx0) Hx0) Hx0 Hx2 K11 hi
    refine ⟨fun x0 x1 x2 x3 x4 x5 h K0 Hx0 Hx2 Hx4 hf => ?_, ?_⟩
    · obtain ⟨y, hf, hi⟩ := pm_iter_s hf
      have hf : tX5_begin_27 x0 x1 x2 x3 x4 x5 h = some y := hf
      unfold tX5_begin_27 at hf
      by_cases c12 : x3 ≤ x5
      · have hf := pm_it hf c12
        obtain ⟨k13, hf⟩ := pm_if hf
        obtain ⟨v14, e15, hf⟩ := pm_bd hf
        have K16 := rgX5_enter K0 Hx0 e15
        obtain ⟨k17, hf⟩ := pm_if hf
        obtain ⟨v18, e19, hf⟩ := pm_bd hf
        have K20 := rgX5_settle K16 Hx0 e19
        cases hf
        exact ih.2.2 v18 K20  hi
      · have hf := pm_ie hf c12
        obtain ⟨k21, hf⟩ := pm_if hf
        obtain ⟨v22, e23, hf⟩ := pm_bd hf
        obtain ⟨v24, e25, hf⟩ := pm_bd hf
        obtain ⟨v26, e27, hf⟩ := pm_bd hf
        obtain ⟨v28, e29, hf⟩ := pm_lt hf
        obtain ⟨v30, e31, hf⟩ := pm_bd hf
        have K32 := rgX12_setItem_ K0 (pr_c K0 Hx0 e23) e31
        obtain ⟨y33, e34, hf⟩ := pm_lt hf
        cases hf
        exact ih.2.1 x0 x1 x2 x3 x4 y33 v30 K32 Hx0 Hx2 Hx4 hi
    refine fun h K0 hf => ?_
    obtain ⟨y, hf, hi⟩ := pm_iter_s hf
    have hf : tX5_begin_76 h = some y := hf
    unfold tX5_begin_76 at hf
    have hf := Option.some.inj hf
    subst hf
    have hi := Option.some.inj (show some _ = some r from hi)
    subst hi
    exact K0
set_option maxHeartbeats 4000000 in
set_option maxRecDepth 100000 in
theorem rgX5_begin {A : Nat → Prop} {h0 h : pm_H} (K0 : pr_F A h0 h) {a0 : Nat} {p1 : Int32} {p2 : Nat} {p3 : Int32} (Ha0 : A a0) (Hp2 : A p2) {r : pm_H} (hf : fX5_begin h a0 p1 p2 p3 = some r) : pr_F A h0 r := by
  unfold fX5_begin at hf
  obtain ⟨n, hn⟩ := pm_lim_iter hf
  exact (rlX5_begin n).1 a0 p1 p2 p3 h K0 Ha0 Hp2 hn
set_option maxHeartbeats 4000000 in
set_option maxRecDepth 100000 in
theorem rlX5_goOn {A : Nat → Prop} {h0 : pm_H} {r : pm_H} : ∀ n : Nat, (∀ (x0 : Nat) (x1 : Nat) (x2 : Int32) (h : pm_H), pr_F A h0 h → A x0 → A x1 → pm_iter sX5_goOn n (.inl (x0, x1, x2, h)) = some r → pr_F A h0 r) ∧ (∀ (x0 : Nat) (x1 : Nat) (x2 : Int32) (x3 : Nat) (x4 : Int32) (x5 : Int32) (h : pm_H), pr_F A h0 h → A x0 → A x1 → A x3 → pm_iter sX5_goOn n (.inr (.inl (x0, x1, x2, x3, x4, x5, h))) = some r → pr_F A h0 r) ∧ (∀ (x0 : Nat) (x2 : Int32) (x5 : Int32) (h : pm_H), pr_F A h0 h → A x0 → pm_iter sX5_goOn n (.inr (.inr (.inl (x0, x2, x5, h)))) = some r → pr_F A h0 r) ∧ (∀ (h : pm_H), pr_F A h0 h → pm_iter sX5_goOn n (.inr (.inr (.inr h))) = some r → pr_F A h0 r) := by
  intro n
  induction n with
  | zero => exact ⟨fun _ _ _ _ _ _ _ hf => (by cases hf), fun _ _ _ _ _ _ _ _ _ _ _ hf => (by cases hf), fun _ _ _ _ _ _ hf => (by cases hf), fun  _ _ hf => (by cases hf)⟩
  | succ n ih =>
    refine ⟨fun x0 x1 x2 h K0 Hx0 Hx1 hf => ?_, ?_⟩
    · obtain ⟨y, hf, hi⟩ := pm_iter_s hf
      have hf : tX5_goOn_0 x0 x1 x2 h = some y := hf
      unfold tX5_goOn_0 at hf
      obtain ⟨k1, hf⟩ := pm_if hf
      obtain ⟨v2, e3, hf⟩ := pm_bd hf
      obtain ⟨k4, hf⟩ := pm_if hf
      obtain ⟨v5, e6, hf⟩ := pm_bd hf
      have K7 := rgX10_shapeOf K0 (pr_c K0 Hx0 e3) e6
      obtain ⟨v8, e9, hf⟩ := pm_bd hf
      obtain ⟨y10, e11, hf⟩ := pm_lt hf
      cases hf
      exact ih.2.1 x0 x1 x2 v5 y10 0 h K0 Hx0 Hx1 K7 hi
    refine ⟨fun x0 x1 x2 x3 x4 x5 h K0 Hx0 Hx1 Hx3 hf => ?_, ?_⟩
    · obtain ⟨y, hf, hi⟩ := pm_iter_s hf
      have hf : tX5_goOn_24 x0 x1 x2 x3 x4 x5 h = some y := hf
      unfold tX5_goOn_24 at hf
      by_cases c12 : x2 ≤ x5
      · have hf := pm_it hf c12
        obtain ⟨k13, hf⟩ := pm_if hf
        by_cases c14 : (pm_I (pm_setI h x0 7 x2) x0 3) = 0
        · have hf := pm_it hf c14
          obtain ⟨v15, e16, hf⟩ := pm_bd hf
          have K17 := rgX5_stop (pr_sI K0 Hx0) Hx0 e16
          have hf := Option.some.inj hf
          subst hf
          have hi := Option.some.inj (show some _ = some r from hi)
          subst hi
          exact K17
        · have hf := pm_ie hf c14
          cases hf
          exact ih.2.2.1 x0 x2 0 (pm_setI h x0 7 x2) (pr_sI K0 Hx0) Hx0 hi
      · have hf := pm_ie hf c12
        obtain ⟨k18, hf⟩ := pm_if hf
        obtain ⟨v19, e20, hf⟩ := pm_bd hf
        obtain ⟨v21, e22, hf⟩ := pm_bd hf
        obtain ⟨v23, e24, hf⟩ := pm_bd hf
        obtain ⟨v25, e26, hf⟩ := pm_lt hf
        obtain ⟨v27, e28, hf⟩ := pm_bd hf
        have K29 := rgX12_setItem_ K0 (pr_c K0 Hx0 e20) e28
        obtain ⟨y30, e31, hf⟩ := pm_lt hf
        cases hf
        exact ih.2.1 x0 x1 x2 x3 x4 y30 v27 K29 Hx0 Hx1 Hx3 hi
    refine ⟨fun x0 x2 x5 h K0 Hx0 hf => ?_, ?_⟩
    · obtain ⟨y, hf, hi⟩ := pm_iter_s hf
      have hf : tX5_goOn_84 x0 x2 x5 h = some y := hf
      unfold tX5_goOn_84 at hf
      by_cases c32 : x2 ≤ x5
      · have hf := pm_it hf c32
        obtain ⟨k33, hf⟩ := pm_if hf
        obtain ⟨v34, e35, hf⟩ := pm_bd hf
        obtain ⟨k36, hf⟩ := pm_if hf
        obtain ⟨y37, e38, hf⟩ := pm_lt hf
        obtain ⟨v39, e40, hf⟩ := pm_bd hf
        have K41 := rgX5_settle (pr_sI (pr_sI K0 (pr_c K0 Hx0 e35)) Hx0) Hx0 e40
        cases hf
        exact ih.2.2.2 v39 K41  hi
      · have hf := pm_ie hf c32
        obtain ⟨k42, hf⟩ := pm_if hf
        obtain ⟨v43, e44, hf⟩ := pm_bd hf
        obtain ⟨v45, e46, hf⟩ := pm_bd hf
        obtain ⟨k47, hf⟩ := pm_if hf
        obtain ⟨v48, e49, hf⟩ := pm_bd hf
        obtain ⟨v50, e51, hf⟩ := pm_bd hf
        obtain ⟨v52, e53, hf⟩ := pm_bd hf
        have K54 := rgX12_setItem_ K0 (pr_c K0 Hx0 e44) e53
        obtain ⟨y55, e56, hf⟩ := pm_lt hf
        cases hf
        exact ih.2.2.1 x0 x2 y55 v52 K54 Hx0 hi
    refine fun h K0 hf => ?_
    obtain ⟨y, hf, hi⟩ := pm_iter_s hf
    have hf : tX5_goOn_144 h = some y := hf
    unfold tX5_goOn_144 at hf
    have hf := Option.some.inj hf
    subst hf
    have hi := Option.some.inj (show some _ = some r from hi)
    subst hi
    exact K0
set_option maxHeartbeats 4000000 in
set_option maxRecDepth 100000 in
theorem rgX5_goOn {A : Nat → Prop} {h0 h : pm_H} (K0 : pr_F A h0 h) {a0 : Nat} {p1 : Nat} {p2 : Int32} (Ha0 : A a0) (Hp1 : A p1) {r : pm_H} (hf : fX5_goOn h a0 p1 p2 = some r) : pr_F A h0 r := by
  unfold fX5_goOn at hf
  obtain ⟨n, hn⟩ := pm_lim_iter hf
  exact (rlX5_goOn n).1 a0 p1 p2 h K0 Ha0 Hp1 hn
set_option maxHeartbeats 4000000 in
set_option maxRecDepth 100000 in
theorem rgX10_alongTable_b222 {A : Nat → Prop} {h0 h : pm_H} (K0 : pr_F A h0 h) {x0 : Nat} {x2 : Int32} {x5 : Int64} {x7 : Int64} {x9 : Int64} {x11 : Int32} {x12 : Int32} (Hx0 : A x0) {r : (Int64 × pm_H)} (hf : fX10_alongTable_b222 h x0 x2 x5 x7 x9 x11 x12 = some r) : pr_F A h0 r.2 := by
  unfold fX10_alongTable_b222 at hf
  by_cases c75 : x2 = 314
  · have hf := pm_it hf c75
    obtain ⟨k76, hf⟩ := pm_if hf
    obtain ⟨v77, e78, hf⟩ := pm_bd hf
    obtain ⟨k79, hf⟩ := pm_if hf
    obtain ⟨v80, e81, hf⟩ := pm_bd hf
    have K82 := rgX11_copy K0 (pr_c K0 Hx0 e78) e81
    by_cases c83 : x2 = 317
    · have hf := pm_it hf c83
      obtain ⟨k84, hf⟩ := pm_if hf
      obtain ⟨v85, e86, hf⟩ := pm_bd hf
      obtain ⟨k87, hf⟩ := pm_if hf
      obtain ⟨v88, e89, hf⟩ := pm_bd hf
      have K90 := rgX11_fill K82 (pr_c K82 Hx0 e86) e89
      have hf := Option.some.inj hf
      subst hf
      exact K90
    · have hf := pm_ie hf c83
      have hf := Option.some.inj hf
      subst hf
      exact K82
  · have hf := pm_ie hf c75
    by_cases c91 : x2 = 317
    · have hf := pm_it hf c91
      obtain ⟨k92, hf⟩ := pm_if hf
      obtain ⟨v93, e94, hf⟩ := pm_bd hf
      obtain ⟨k95, hf⟩ := pm_if hf
      obtain ⟨v96, e97, hf⟩ := pm_bd hf
      have K98 := rgX11_fill K0 (pr_c K0 Hx0 e94) e97
      have hf := Option.some.inj hf
      subst hf
      exact K98
    · have hf := pm_ie hf c91
      have hf := Option.some.inj hf
      subst hf
      exact K0
set_option maxHeartbeats 4000000 in
set_option maxRecDepth 100000 in
theorem rgX10_alongTable_b168 {A : Nat → Prop} {h0 h : pm_H} (K0 : pr_F A h0 h) {x0 : Nat} {x1 : Nat} {x2 : Int32} {x3 : Int32} {x5 : Int64} {x7 : Int64} {x9 : Int64} {x11 : Int32} {x12 : Int32} {x13 : Int32} (Hx0 : A x0) (Hx1 : A x1) {r : (Int64 × pm_H)} (hf : fX10_alongTable_b168 h x0 x1 x2 x3 x5 x7 x9 x11 x12 x13 = some r) : pr_F A h0 r.2 := by
  unfold fX10_alongTable_b168 at hf
  by_cases c56 : x13 = 0
  · have hf := pm_it hf c56
    obtain ⟨k57, hf⟩ := pm_if hf
    have hf := Option.some.inj hf
    subst hf
    exact (pr_sI K0 Hx0)
  · have hf := pm_ie hf c56
    by_cases c58 : x2 = 312
    · have hf := pm_it hf c58
      by_cases c59 : x3 < 0
      · have hf := pm_it hf c59
        exact rgX10_alongTable_b222 K0 Hx0 hf
      · have hf := pm_ie hf c59
        obtain ⟨k60, hf⟩ := pm_if hf
        obtain ⟨v61, e62, hf⟩ := pm_bd hf
        obtain ⟨k63, hf⟩ := pm_if hf
        by_cases c64 : (Int32.ofNat (pm_ln h v61)) ≤ x3
        · have hf := pm_it hf c64
          exact rgX10_alongTable_b222 K0 Hx0 hf
        · have hf := pm_ie hf c64
          obtain ⟨k65, hf⟩ := pm_if hf
          obtain ⟨v66, e67, hf⟩ := pm_bd hf
          obtain ⟨u68, hf⟩ := pm_if hf
          obtain ⟨v69, e70, hf⟩ := pm_bd hf
          obtain ⟨k71, hf⟩ := pm_if hf
          obtain ⟨v72, e73, hf⟩ := pm_bd hf
          have K74 := rgX11_copyFrom K0 (pr_c K0 Hx0 e67) (pr_c K0 (pr_c K0 Hx1 e62) e70) e73
          exact rgX10_alongTable_b222 K74 Hx0 hf
    · have hf := pm_ie hf c58
      exact rgX10_alongTable_b222 K0 Hx0 hf
set_option maxHeartbeats 4000000 in
set_option maxRecDepth 100000 in
theorem rgX10_alongTable_b72 {A : Nat → Prop} {h0 h : pm_H} (K0 : pr_F A h0 h) {s0 : Int32}  {r : (Int64 × pm_H)} (hf : fX10_alongTable_b72 h s0 = some r) : pr_F A h0 r.2 := by
  unfold fX10_alongTable_b72 at hf
  have hf := Option.some.inj hf
  subst hf
  exact K0
set_option maxHeartbeats 4000000 in
set_option maxRecDepth 100000 in
theorem rgX10_alongTable_b142 {A : Nat → Prop} {h0 h : pm_H} (K0 : pr_F A h0 h) {x0 : Nat} {x1 : Nat} {x2 : Int32} {x3 : Int32} {x5 : Int64} {x7 : Int64} {x9 : Int64} {x11 : Int32} {x12 : Int32} {x13 : Int32} (Hx0 : A x0) (Hx1 : A x1) {r : (Int64 × pm_H)} (hf : fX10_alongTable_b142 h x0 x1 x2 x3 x5 x7 x9 x11 x12 x13 = some r) : pr_F A h0 r.2 := by
  unfold fX10_alongTable_b142 at hf
  by_cases c48 : x2 = 314
  · have hf := pm_it hf c48
    obtain ⟨k49, hf⟩ := pm_if hf
    obtain ⟨v50, e51, hf⟩ := pm_bd hf
    obtain ⟨k52, hf⟩ := pm_if hf
    obtain ⟨v53, e54, hf⟩ := pm_bd hf
    by_cases c55 : v53 = 0
    · have hf := pm_it hf c55
      exact rgX10_alongTable_b168 K0 Hx0 Hx1 hf
    · have hf := pm_ie hf c55
      exact rgX10_alongTable_b168 K0 Hx0 Hx1 hf
  · have hf := pm_ie hf c48
    exact rgX10_alongTable_b168 K0 Hx0 Hx1 hf
set_option maxHeartbeats 4000000 in
set_option maxRecDepth 100000 in
theorem rgX10_alongTable_b35 {A : Nat → Prop} {h0 h : pm_H} (K0 : pr_F A h0 h) {x0 : Nat} {x1 : Nat} {x2 : Int32} {x3 : Int32} {x4 : Int32} {x5 : Int64} {x7 : Int64} {x9 : Int64} {s0 : Int32} {s1 : Nat} (Hx0 : A x0) (Hx1 : A x1) (Hs1 : A s1) {r : (Int64 × pm_H)} (hf : fX10_alongTable_b35 h x0 x1 x2 x3 x4 x5 x7 x9 s0 s1 = some r) : pr_F A h0 r.2 := by
  unfold fX10_alongTable_b35 at hf
  obtain ⟨v12, e13, hf⟩ := pm_bd hf
  obtain ⟨k14, hf⟩ := pm_if hf
  obtain ⟨v15, e16, hf⟩ := pm_bd hf
  obtain ⟨v17, e18, hf⟩ := pm_bd hf
  by_cases c19 : x2 = 315
  · have hf := pm_it hf c19
    obtain ⟨k20, hf⟩ := pm_if hf
    obtain ⟨v21, e22, hf⟩ := pm_bd hf
    obtain ⟨k23, hf⟩ := pm_if hf
    obtain ⟨v24, e25, hf⟩ := pm_bd hf
    have K26 := rgX11_grow K0 (pr_c K0 Hx0 e22) e25
    exact rgX10_alongTable_b72 K26  hf
  · have hf := pm_ie hf c19
    by_cases c27 : x2 = 316
    · have hf := pm_it hf c27
      obtain ⟨k28, hf⟩ := pm_if hf
      obtain ⟨v29, e30, hf⟩ := pm_bd hf
      obtain ⟨k31, hf⟩ := pm_if hf
      obtain ⟨v32, e33, hf⟩ := pm_bd hf
      obtain ⟨v34, e35, hf⟩ := pm_bd hf
      have hf := Option.some.inj hf
      subst hf
      exact K0
    · have hf := pm_ie hf c27
      obtain ⟨k36, hf⟩ := pm_if hf
      obtain ⟨v37, e38, hf⟩ := pm_bd hf
      obtain ⟨k39, hf⟩ := pm_if hf
      obtain ⟨v40, e41, hf⟩ := pm_bd hf
      by_cases c42 : x2 = 312
      · have hf := pm_it hf c42
        obtain ⟨v43, e44, hf⟩ := pm_bd hf
        obtain ⟨v45, e46, hf⟩ := pm_bd hf
        by_cases c47 : (x7 + x9) ≤ v45.toInt64
        · have hf := pm_it hf c47
          exact rgX10_alongTable_b142 K0 Hx0 Hx1 hf
        · have hf := pm_ie hf c47
          exact rgX10_alongTable_b142 K0 Hx0 Hx1 hf
      · have hf := pm_ie hf c42
        exact rgX10_alongTable_b142 K0 Hx0 Hx1 hf
set_option maxHeartbeats 4000000 in
set_option maxRecDepth 100000 in
theorem rgX10_alongTable_b0 {A : Nat → Prop} {h0 h : pm_H} (K0 : pr_F A h0 h) {x0 : Nat} {x1 : Nat} {x2 : Int32} {x3 : Int32} {x4 : Int32} {x5 : Int64} {x7 : Int64} {x9 : Int64} (Hx0 : A x0) (Hx1 : A x1) {r : (Int64 × pm_H)} (hf : fX10_alongTable_b0 h x0 x1 x2 x3 x4 x5 x7 x9 = some r) : pr_F A h0 r.2 := by
  unfold fX10_alongTable_b0 at hf
  by_cases c1 : x2 = 313
  · have hf := pm_it hf c1
    obtain ⟨k2, hf⟩ := pm_if hf
    obtain ⟨v3, e4, hf⟩ := pm_bd hf
    obtain ⟨v5, e6, hf⟩ := pm_bd hf
    have K7 := rgX12_setItem K0 (pr_c K0 Hx1 e4) e6
    have hf := Option.some.inj hf
    subst hf
    exact K7
  · have hf := pm_ie hf c1
    obtain ⟨k8, hf⟩ := pm_if hf
    obtain ⟨v9, e10, hf⟩ := pm_bd hf
    by_cases c11 : x2 = 312
    · have hf := pm_it hf c11
      exact rgX10_alongTable_b35 K0 Hx0 Hx1 (pr_c K0 Hx1 e10) hf
    · have hf := pm_ie hf c11
      exact rgX10_alongTable_b35 K0 Hx0 Hx1 (pr_c K0 Hx1 e10) hf
set_option maxHeartbeats 4000000 in
set_option maxRecDepth 100000 in
theorem rgX10_alongTable {A : Nat → Prop} {h0 h : pm_H} (K0 : pr_F A h0 h) {a0 : Nat} {p1 : Nat} {p2 : Int32} {p3 : Int32} {p4 : Int32} {p5 : Int64} {p6 : Int64} {p7 : Int64} (Ha0 : A a0) (Hp1 : A p1) {r : (Int64 × pm_H)} (hf : fX10_alongTable h a0 p1 p2 p3 p4 p5 p6 p7 = some r) : pr_F A h0 r.2 := by
  unfold fX10_alongTable at hf
  exact rgX10_alongTable_b0 K0 Ha0 Hp1 hf
set_option maxHeartbeats 4000000 in
set_option maxRecDepth 100000 in
theorem rgX11_create_b55 {A : Nat → Prop} {h0 h : pm_H} (K0 : pr_F A h0 h) {x6 : Int32} {s0 : Int32}  {r : (Int32 × pm_H)} (hf : fX11_create_b55 h x6 s0 = some r) : pr_F A h0 r.2 := by
  unfold fX11_create_b55 at hf
  have hf := Option.some.inj hf
  subst hf
  exact K0
set_option maxHeartbeats 4000000 in
set_option maxRecDepth 100000 in
theorem rgX11_create_b0 {A : Nat → Prop} {h0 h : pm_H} (K0 : pr_F A h0 h) {x0 : Nat} {x1 : Int32} {x2 : Int64} {x4 : Int64} (Hx0 : A x0) {r : (Int32 × pm_H)} (hf : fX11_create_b0 h x0 x1 x2 x4 = some r) : pr_F A h0 r.2 := by
  unfold fX11_create_b0 at hf
  obtain ⟨k1, hf⟩ := pm_if hf
  obtain ⟨y2, e3, hf⟩ := pm_lt hf
  obtain ⟨y4, e5, hf⟩ := pm_lt hf
  obtain ⟨v6, e7, hf⟩ := pm_bd hf
  obtain ⟨v8, e9, hf⟩ := pm_bd hf
  have K10 := rgX12_setItem (pr_sI K0 Hx0) (pr_c (pr_sI K0 Hx0) Hx0 e7) e9
  obtain ⟨k11, hf⟩ := pm_if hf
  obtain ⟨v12, e13, hf⟩ := pm_bd hf
  obtain ⟨v14, e15, hf⟩ := pm_bd hf
  have K16 := rgX12_setItem K10 (pr_c K10 Hx0 e13) e15
  obtain ⟨k17, hf⟩ := pm_if hf
  obtain ⟨v18, e19, hf⟩ := pm_bd hf
  obtain ⟨v20, e21, hf⟩ := pm_bd hf
  have K22 := rgX12_setItem_ K16 (pr_c K16 Hx0 e19) e21
  obtain ⟨k23, hf⟩ := pm_if hf
  obtain ⟨v24, e25, hf⟩ := pm_bd hf
  have K26 := rgX11_grow K22 Hx0 e25
  exact rgX11_create_b55 K26  hf
set_option maxHeartbeats 4000000 in
set_option maxRecDepth 100000 in
theorem rgX11_create {A : Nat → Prop} {h0 h : pm_H} (K0 : pr_F A h0 h) {a0 : Nat} {p1 : Int32} {p2 : Int64} {p3 : Int64} (Ha0 : A a0) {r : (Int32 × pm_H)} (hf : fX11_create h a0 p1 p2 p3 = some r) : pr_F A h0 r.2 := by
  unfold fX11_create at hf
  exact rgX11_create_b0 K0 Ha0 hf
set_option maxHeartbeats 4000000 in
set_option maxRecDepth 100000 in
theorem rgX12_answer_b65 {A : Nat → Prop} {h0 h : pm_H} (K0 : pr_F A h0 h) {x0 : Nat} (Hx0 : A x0) {r : (Int32 × pm_H)} (hf : fX12_answer_b65 h x0 = some r) : pr_F A h0 r.2 := by
  unfold fX12_answer_b65 at hf
  obtain ⟨k24, hf⟩ := pm_if hf
  have hf := Option.some.inj hf
  subst hf
  exact (pr_sI K0 Hx0)
set_option maxHeartbeats 4000000 in
set_option maxRecDepth 100000 in
theorem rgX12_answer_b0 {A : Nat → Prop} {h0 h : pm_H} (K0 : pr_F A h0 h) {x0 : Nat} (Hx0 : A x0) {r : (Int32 × pm_H)} (hf : fX12_answer_b0 h x0 = some r) : pr_F A h0 r.2 := by
  unfold fX12_answer_b0 at hf
  obtain ⟨k1, hf⟩ := pm_if hf
  obtain ⟨v2, e3, hf⟩ := pm_bd hf
  obtain ⟨k4, hf⟩ := pm_if hf
  by_cases c5 : (pm_I h v2 0) = 5
  · have hf := pm_it hf c5
    obtain ⟨v6, e7, hf⟩ := pm_bd hf
    obtain ⟨k8, hf⟩ := pm_if hf
    obtain ⟨v9, e10, hf⟩ := pm_bd hf
    have K11 := rgX10_shapeOf K0 (pr_c K0 Hx0 e7) e10
    obtain ⟨v12, e13, hf⟩ := pm_bd hf
    obtain ⟨v14, e15, hf⟩ := pm_bd hf
    obtain ⟨v16, e17, hf⟩ := pm_bd hf
    by_cases c18 : v16 = 0
    · have hf := pm_it hf c18
      have hf := Option.some.inj hf
      subst hf
      exact K0
    · have hf := pm_ie hf c18
      obtain ⟨v19, e20, hf⟩ := pm_bd hf
      obtain ⟨v21, e22, hf⟩ := pm_bd hf
      have K23 := rgX5_goOn K0 (pr_c K0 Hx0 e3) (pr_c K0 Hx0 e20) e22
      exact rgX12_answer_b65 K23 Hx0 hf
  · have hf := pm_ie hf c5
    have hf := Option.some.inj hf
    subst hf
    exact K0
set_option maxHeartbeats 4000000 in
set_option maxRecDepth 100000 in
theorem rgX12_answer {A : Nat → Prop} {h0 h : pm_H} (K0 : pr_F A h0 h) {a0 : Nat} (Ha0 : A a0) {r : (Int32 × pm_H)} (hf : fX12_answer h a0 = some r) : pr_F A h0 r.2 := by
  unfold fX12_answer at hf
  exact rgX12_answer_b0 K0 Ha0 hf
set_option maxHeartbeats 4000000 in
set_option maxRecDepth 100000 in
theorem rgX12_call_b82 {A : Nat → Prop} {h0 h : pm_H} (K0 : pr_F A h0 h) {x0 : Nat} (Hx0 : A x0) {r : (Int32 × pm_H)} (hf : fX12_call_b82 h x0 = some r) : pr_F A h0 r.2 := by
  unfold fX12_call_b82 at hf
  obtain ⟨k33, hf⟩ := pm_if hf
  have hf := Option.some.inj hf
  subst hf
  exact (pr_sI K0 Hx0)
set_option maxHeartbeats 4000000 in
set_option maxRecDepth 100000 in
theorem rgX12_call_b0 {A : Nat → Prop} {h0 h : pm_H} (K0 : pr_F A h0 h) {x0 : Nat} {x1 : Int32} {x2 : Int32} (Hx0 : A x0) {r : (Int32 × pm_H)} (hf : fX12_call_b0 h x0 x1 x2 = some r) : pr_F A h0 r.2 := by
  unfold fX12_call_b0 at hf
  obtain ⟨k1, hf⟩ := pm_if hf
  obtain ⟨v2, e3, hf⟩ := pm_bd hf
  obtain ⟨k4, hf⟩ := pm_if hf
  obtain ⟨v5, e6, hf⟩ := pm_bd hf
  have K7 := rgX10_instanceAt K0 (pr_c K0 Hx0 e3) e6
  obtain ⟨v8, e9, hf⟩ := pm_bd hf
  obtain ⟨k10, hf⟩ := pm_if hf
  obtain ⟨v11, e12, hf⟩ := pm_bd hf
  by_cases c13 : v11 = 0
  · have hf := pm_it hf c13
    obtain ⟨k14, hf⟩ := pm_if hf
    obtain ⟨v15, e16, hf⟩ := pm_bd hf
    by_cases c17 : v15 = 0
    · have hf := pm_it hf c17
      obtain ⟨v18, e19, hf⟩ := pm_bd hf
      obtain ⟨v20, e21, hf⟩ := pm_bd hf
      have K22 := rgX10_shapeOf K0 (pr_c K0 Hx0 e3) e21
      obtain ⟨v23, e24, hf⟩ := pm_bd hf
      obtain ⟨v25, e26, hf⟩ := pm_bd hf
      by_cases c27 : v25 = 0
      · have hf := pm_it hf c27
        have hf := Option.some.inj hf
        subst hf
        exact K0
      · have hf := pm_ie hf c27
        obtain ⟨v28, e29, hf⟩ := pm_bd hf
        obtain ⟨v30, e31, hf⟩ := pm_bd hf
        have K32 := rgX5_begin K0 (pr_c K0 Hx0 e9) (pr_c K0 Hx0 e29) e31
        exact rgX12_call_b82 K32 Hx0 hf
    · have hf := pm_ie hf c17
      have hf := Option.some.inj hf
      subst hf
      exact K0
  · have hf := pm_ie hf c13
    have hf := Option.some.inj hf
    subst hf
    exact K0
set_option maxHeartbeats 4000000 in
set_option maxRecDepth 100000 in
theorem rgX12_call {A : Nat → Prop} {h0 h : pm_H} (K0 : pr_F A h0 h) {a0 : Nat} {p1 : Int32} {p2 : Int32} (Ha0 : A a0) {r : (Int32 × pm_H)} (hf : fX12_call h a0 p1 p2 = some r) : pr_F A h0 r.2 := by
  unfold fX12_call at hf
  exact rgX12_call_b0 K0 Ha0 hf
