set_option maxHeartbeats 4000000 in
set_option maxRecDepth 100000 in
theorem rlX1_body {A : Nat → Prop} {h0 : pm_H} {r : pm_H} : ∀ n : Nat, (∀ (x0 : Nat) (x1 : Int32) (h : pm_H), pr_F A h0 h → A x0 → pm_iter sX1_body n (.inl (x0, x1, h)) = some r → pr_F A h0 r) ∧ (∀ (x0 : Nat) (x2 : Int32) (h : pm_H), pr_F A h0 h → A x0 → pm_iter sX1_body n (.inr (.inl (x0, x2, h))) = some r → pr_F A h0 r) ∧ (∀ (x0 : Nat) (h : pm_H), pr_F A h0 h → A x0 → pm_iter sX1_body n (.inr (.inr (.inl (x0, h)))) = some r → pr_F A h0 r) ∧ (∀ (x0 : Nat) (x2 : Int32) (h : pm_H), pr_F A h0 h → A x0 → pm_iter sX1_body n (.inr (.inr (.inr (.inl (x0, x2, h))))) = some r → pr_F A h0 r) ∧ (∀ (x0 : Nat) (x2 : Int32) (h : pm_H), pr_F A h0 h → A x0 → pm_iter sX1_body n (.inr (.inr (.inr (.inr (.inl (x0, x2, h)))))) = some r → pr_F A h0 r) ∧ (∀ (s0 : Nat) (s1 : Nat) (h : pm_H), pr_F A h0 h → A s0 → A s1 → pm_iter sX1_body n (.inr (.inr (.inr (.inr (.inr (s0, s1, h)))))) = some r → pr_F A h0 r) := by
  intro n
  induction n with
  | zero => exact ⟨fun _ _ _ _ _ hf => (by cases hf), fun _ _ _ _ _ hf => (by cases hf), fun _ _ _ _ hf => (by cases hf), fun _ _ _ _ _ hf => (by cases hf), fun _ _ _ _ _ hf => (by cases hf), fun _ _ _ _ _ _ hf => (by cases hf)⟩
  | succ n ih =>
    refine ⟨fun x0 x1 h K0 Hx0 hf => ?_, ?_⟩
    · obtain ⟨y, hf, hi⟩ := pm_iter_s hf
      have hf : tX1_body_0 x0 x1 h = some y := hf
      unfold tX1_body_0 at hf
      by_cases c1 : x1 < 0
      · have hf := pm_it hf c1
        have hf := Option.some.inj hf
        subst hf
        have hi := Option.some.inj (show some _ = some r from hi)
        subst hi
        exact K0
      · have hf := pm_ie hf c1
        obtain ⟨k2, hf⟩ := pm_if hf
        obtain ⟨v3, e4, hf⟩ := pm_bd hf
        obtain ⟨k5, hf⟩ := pm_if hf
        obtain ⟨v6, e7, hf⟩ := pm_bd hf
        obtain ⟨k8, hf⟩ := pm_if hf
        by_cases c9 : x1 < (Int32.ofNat (pm_ln h v6))
        · have hf := pm_it hf c9
          obtain ⟨u10, hf⟩ := pm_if hf
          obtain ⟨v11, e12, hf⟩ := pm_bd hf
          obtain ⟨v13, e14, hf⟩ := pm_bd hf
          obtain ⟨v15, e16, hf⟩ := pm_bd hf
          obtain ⟨k17, hf⟩ := pm_if hf
          obtain ⟨v18, e19, hf⟩ := pm_bd hf
          obtain ⟨v20, e21, hf⟩ := pm_bd hf
          obtain ⟨k22, hf⟩ := pm_if hf
          obtain ⟨v23, e24, hf⟩ := pm_bd hf
          have K25 := rgX9_open (pr_sR K0 Hx0 (pr_c K0 (pr_c K0 (pr_c K0 Hx0 e4) e7) e12)) (pr_c (pr_sR K0 Hx0 (pr_c K0 (pr_c K0 (pr_c K0 Hx0 e4) e7) e12)) Hx0 e14) (pr_c (pr_sR K0 Hx0 (pr_c K0 (pr_c K0 (pr_c K0 Hx0 e4) e7) e12)) Hx0 e16) e24
          obtain ⟨k26, hf⟩ := pm_if hf
          obtain ⟨v27, e28, hf⟩ := pm_bd hf
          have K29 := rgX1_readLocals K25 Hx0 e28
          obtain ⟨k30, hf⟩ := pm_if hf
          obtain ⟨v31, e32, hf⟩ := pm_bd hf
          obtain ⟨k33, hf⟩ := pm_if hf
          obtain ⟨v34, e35, hf⟩ := pm_bd hf
          obtain ⟨v36, e37, hf⟩ := pm_bd hf
          obtain ⟨v38, e39, hf⟩ := pm_bd hf
          have K40 := rgX1_openLabel (pr_sI (pr_sI (pr_sI K29 Hx0) Hx0) Hx0) Hx0 e39
          cases hf
          exact ih.2.1 x0 0 v38 K40 Hx0 hi
        · have hf := pm_ie hf c9
          have hf := Option.some.inj hf
          subst hf
          have hi := Option.some.inj (show some _ = some r from hi)
          subst hi
          exact K0
    refine ⟨fun x0 x2 h K0 Hx0 hf => ?_, ?_⟩
    · obtain ⟨y, hf, hi⟩ := pm_iter_s hf
      have hf : tX1_body_102 x0 x2 h = some y := hf
      unfold tX1_body_102 at hf
      obtain ⟨k41, hf⟩ := pm_if hf
      obtain ⟨v42, e43, hf⟩ := pm_bd hf
      obtain ⟨k44, hf⟩ := pm_if hf
      obtain ⟨v45, e46, hf⟩ := pm_bd hf
      obtain ⟨k47, hf⟩ := pm_if hf
      by_cases c48 : (Int32.ofNat (pm_ln h v45)) ≤ x2
      · have hf := pm_it hf c48
        cases hf
        exact ih.2.2.1 x0 h K0 Hx0 hi
      · have hf := pm_ie hf c48
        by_cases c49 : (pm_I h x0 10) ≤ 0
        · have hf := pm_it hf c49
          cases hf
          exact ih.2.2.1 x0 h K0 Hx0 hi
        · have hf := pm_ie hf c49
          by_cases c50 : (pm_I h x0 0) = 0
          · have hf := pm_it hf c50
            obtain ⟨v51, e52, hf⟩ := pm_bd hf
            obtain ⟨k53, hf⟩ := pm_if hf
            obtain ⟨v54, e55, hf⟩ := pm_bd hf
            have K56 := rgX9_instruction K0 (pr_c K0 Hx0 e52) e55
            obtain ⟨k57, hf⟩ := pm_if hf
            obtain ⟨y58, e59, hf⟩ := pm_lt hf
            obtain ⟨v60, e61, hf⟩ := pm_bd hf
            obtain ⟨k62, hf⟩ := pm_if hf
            by_cases c63 : 17 < (pm_I (pm_setI v54 x0 7 y58) v60 6)
            · have hf := pm_it hf c63
              obtain ⟨v64, e65, hf⟩ := pm_bd hf
              have K66 := rgX1_other (pr_sI K56 Hx0) Hx0 e65
              cases hf
              exact ih.2.2.2.1 x0 x2 v64 K66 Hx0 hi
            · have hf := pm_ie hf c63
              obtain ⟨v67, e68, hf⟩ := pm_bd hf
              have K69 := rgX1_control (pr_sI K56 Hx0) Hx0 e68
              cases hf
              exact ih.2.2.2.2.1 x0 x2 v67 K69 Hx0 hi
          · have hf := pm_ie hf c50
            cases hf
            exact ih.2.2.1 x0 h K0 Hx0 hi
    refine ⟨fun x0 h K0 Hx0 hf => ?_, ?_⟩
    · obtain ⟨y, hf, hi⟩ := pm_iter_s hf
      have hf : tX1_body_208 x0 h = some y := hf
      unfold tX1_body_208 at hf
      obtain ⟨k70, hf⟩ := pm_if hf
      obtain ⟨v71, e72, hf⟩ := pm_bd hf
      obtain ⟨y73, e74, hf⟩ := pm_lt hf
      obtain ⟨k75, hf⟩ := pm_if hf
      obtain ⟨y76, e77, hf⟩ := pm_lt hf
      obtain ⟨v78, e79, hf⟩ := pm_bd hf
      obtain ⟨v80, e81, hf⟩ := pm_bd hf
      have K82 := rgJ7_copyOf_59c91 (pr_sI (pr_sI K0 (pr_c K0 Hx0 e72)) (pr_c K0 Hx0 e72)) (pr_c (pr_sI (pr_sI K0 (pr_c K0 Hx0 e72)) (pr_c K0 Hx0 e72)) Hx0 e79) e81
      cases hf
      exact ih.2.2.2.2.2 v80.1 v71 v80.2 K82.1 K82.2 (pr_c K0 Hx0 e72) hi
    refine ⟨fun x0 x2 h K0 Hx0 hf => ?_, ?_⟩
    · obtain ⟨y, hf, hi⟩ := pm_iter_s hf
      have hf : tX1_body_180 x0 x2 h = some y := hf
      unfold tX1_body_180 at hf
      obtain ⟨k83, hf⟩ := pm_if hf
      by_cases c84 : (pm_I h x0 10) ≤ 0
      · have hf := pm_it hf c84
        obtain ⟨y85, e86, hf⟩ := pm_lt hf
        cases hf
        exact ih.2.1 x0 y85 h K0 Hx0 hi
      · have hf := pm_ie hf c84
        obtain ⟨y87, e88, hf⟩ := pm_lt hf
        obtain ⟨y89, e90, hf⟩ := pm_lt hf
        obtain ⟨y91, e92, hf⟩ := pm_lt hf
        cases hf
        exact ih.2.1 x0 y91 (pm_setI h x0 8 y89) (pr_sI K0 Hx0) Hx0 hi
    refine ⟨fun x0 x2 h K0 Hx0 hf => ?_, ?_⟩
    · obtain ⟨y, hf, hi⟩ := pm_iter_s hf
      have hf : tX1_body_166 x0 x2 h = some y := hf
      unfold tX1_body_166 at hf
      cases hf
      exact ih.2.2.2.1 x0 x2 h K0 Hx0 hi
    refine fun s0 s1 h K0 Hs0 Hs1 hf => ?_
    obtain ⟨y, hf, hi⟩ := pm_iter_s hf
    have hf : tX1_body_245 s0 s1 h = some y := hf
    unfold tX1_body_245 at hf
    obtain ⟨k93, hf⟩ := pm_if hf
    have hf := Option.some.inj hf
    subst hf
    have hi := Option.some.inj (show some _ = some r from hi)
    subst hi
    exact (pr_sR K0 Hs1 Hs0)
set_option maxHeartbeats 4000000 in
set_option maxRecDepth 100000 in
theorem rgX1_body {A : Nat → Prop} {h0 h : pm_H} (K0 : pr_F A h0 h) {a0 : Nat} {p1 : Int32} (Ha0 : A a0) {r : pm_H} (hf : fX1_body h a0 p1 = some r) : pr_F A h0 r := by
  unfold fX1_body at hf
  obtain ⟨n, hn⟩ := pm_lim_iter hf
  exact (rlX1_body n).1 a0 p1 h K0 Ha0 hn
set_option maxHeartbeats 4000000 in
set_option maxRecDepth 100000 in
theorem rgX5_stepOnRegisters_b386 {A : Nat → Prop} {h0 h : pm_H} (K0 : pr_F A h0 h) {x0 : Nat} {x8 : Int32} {s0 : Int64} (Hx0 : A x0) {r : pm_H} (hf : fX5_stepOnRegisters_b386 h x0 x8 s0 = some r) : pr_F A h0 r := by
  unfold fX5_stepOnRegisters_b386 at hf
  obtain ⟨k95, hf⟩ := pm_if hf
  obtain ⟨v96, e97, hf⟩ := pm_bd hf
  obtain ⟨k98, hf⟩ := pm_if hf
  by_cases c99 : (pm_I h v96 0) = 0
  · have hf := pm_it hf c99
    by_cases c100 : x8 < 0
    · have hf := pm_it hf c100
      have hf := Option.some.inj hf
      subst hf
      exact K0
    · have hf := pm_ie hf c100
      obtain ⟨v101, e102, hf⟩ := pm_bd hf
      obtain ⟨v103, e104, hf⟩ := pm_bd hf
      obtain ⟨k105, hf⟩ := pm_if hf
      obtain ⟨v106, e107, hf⟩ := pm_bd hf
      have K108 := rgX12_setItem_ K0 (pr_c K0 Hx0 e102) e107
      have hf := Option.some.inj hf
      subst hf
      exact K108
  · have hf := pm_ie hf c99
    obtain ⟨v109, e110, hf⟩ := pm_bd hf
    have K111 := rgX5_fail K0 Hx0 e110
    have hf := Option.some.inj hf
    subst hf
    exact K111
set_option maxHeartbeats 4000000 in
set_option maxRecDepth 100000 in
theorem rgX5_stepOnRegisters_b337 {A : Nat → Prop} {h0 h : pm_H} (K0 : pr_F A h0 h)   {r : pm_H} (hf : fX5_stepOnRegisters_b337 h  = some r) : pr_F A h0 r := by
  unfold fX5_stepOnRegisters_b337 at hf
  have hf := Option.some.inj hf
  subst hf
  exact K0
set_option maxHeartbeats 4000000 in
set_option maxRecDepth 100000 in
theorem rgX5_stepOnRegisters_b0 {A : Nat → Prop} {h0 h : pm_H} (K0 : pr_F A h0 h) {x0 : Nat} {x1 : Int32} (Hx0 : A x0) {r : pm_H} (hf : fX5_stepOnRegisters_b0 h x0 x1 = some r) : pr_F A h0 r := by
  unfold fX5_stepOnRegisters_b0 at hf
  obtain ⟨k1, hf⟩ := pm_if hf
  obtain ⟨v2, e3, hf⟩ := pm_bd hf
  obtain ⟨k4, hf⟩ := pm_if hf
  obtain ⟨v5, e6, hf⟩ := pm_bd hf
  obtain ⟨v7, e8, hf⟩ := pm_bd hf
  obtain ⟨v9, e10, hf⟩ := pm_bd hf
  obtain ⟨v11, e12, hf⟩ := pm_bd hf
  obtain ⟨v13, e14, hf⟩ := pm_bd hf
  obtain ⟨v15, e16, hf⟩ := pm_bd hf
  obtain ⟨v17, e18, hf⟩ := pm_bd hf
  obtain ⟨y19, e20, hf⟩ := pm_lt hf
  by_cases c21 : v7 = 1
  · have hf := pm_it hf c21
    obtain ⟨v22, e23, hf⟩ := pm_bd hf
    have K24 := rgX5_goFreely (pr_sI K0 (pr_c K0 Hx0 e3)) Hx0 e23
    have hf := Option.some.inj hf
    subst hf
    exact K24
  have hf := pm_ie hf c21
  by_cases c25 : v7 = 4
  · have hf := pm_it hf c25
    obtain ⟨v26, e27, hf⟩ := pm_bd hf
    by_cases c28 : v26 = 0
    · have hf := pm_it hf c28
      have hf := Option.some.inj hf
      subst hf
      exact (pr_sI (pr_sI K0 (pr_c K0 Hx0 e3)) (pr_c K0 Hx0 e3))
    · have hf := pm_ie hf c28
      have hf := Option.some.inj hf
      subst hf
      exact (pr_sI K0 (pr_c K0 Hx0 e3))
  have hf := pm_ie hf c25
  by_cases c29 : v7 = 5
  · have hf := pm_it hf c29
    obtain ⟨v30, e31, hf⟩ := pm_bd hf
    have K32 := rgX5_goFreely (pr_sI K0 (pr_c K0 Hx0 e3)) Hx0 e31
    have hf := Option.some.inj hf
    subst hf
    exact K32
  have hf := pm_ie hf c29
  by_cases c33 : v7 = 11
  · have hf := pm_it hf c33
    obtain ⟨v34, e35, hf⟩ := pm_bd hf
    have K36 := rgX5_goFreely (pr_sI K0 (pr_c K0 Hx0 e3)) Hx0 e35
    have hf := Option.some.inj hf
    subst hf
    exact K36
  have hf := pm_ie hf c33
  by_cases c37 : v7 = 12
  · have hf := pm_it hf c37
    obtain ⟨v38, e39, hf⟩ := pm_bd hf
    have K40 := rgX5_branchOnRegisters (pr_sI K0 (pr_c K0 Hx0 e3)) Hx0 e39
    have hf := Option.some.inj hf
    subst hf
    exact K40
  have hf := pm_ie hf c37
  by_cases c41 : v7 = 13
  · have hf := pm_it hf c41
    obtain ⟨v42, e43, hf⟩ := pm_bd hf
    by_cases c44 : v42 = 0
    · have hf := pm_it hf c44
      have hf := Option.some.inj hf
      subst hf
      exact (pr_sI K0 (pr_c K0 Hx0 e3))
    · have hf := pm_ie hf c44
      obtain ⟨v45, e46, hf⟩ := pm_bd hf
      have K47 := rgX5_branchOnRegisters (pr_sI K0 (pr_c K0 Hx0 e3)) Hx0 e46
      have hf := Option.some.inj hf
      subst hf
      exact K47
  have hf := pm_ie hf c41
  by_cases c48 : v7 = 14
  · have hf := pm_it hf c48
    obtain ⟨v49, e50, hf⟩ := pm_bd hf
    obtain ⟨v51, e52, hf⟩ := pm_bd hf
    have K53 := rgX5_branchOnRegisters (pr_sI K0 (pr_c K0 Hx0 e3)) Hx0 e52
    have hf := Option.some.inj hf
    subst hf
    exact K53
  have hf := pm_ie hf c48
  by_cases c54 : v7 = 16
  · have hf := pm_it hf c54
    obtain ⟨y55, e56, hf⟩ := pm_lt hf
    obtain ⟨v57, e58, hf⟩ := pm_bd hf
    obtain ⟨k59, hf⟩ := pm_if hf
    obtain ⟨v60, e61, hf⟩ := pm_bd hf
    obtain ⟨v62, e63, hf⟩ := pm_bd hf
    obtain ⟨v64, e65, hf⟩ := pm_bd hf
    have K66 := rgX5_enter (pr_sI (pr_sI K0 (pr_c K0 Hx0 e3)) (pr_c K0 Hx0 e3)) Hx0 e65
    have hf := Option.some.inj hf
    subst hf
    exact K66
  have hf := pm_ie hf c54
  by_cases c67 : v7 = 17
  · have hf := pm_it hf c67
    obtain ⟨y68, e69, hf⟩ := pm_lt hf
    obtain ⟨v70, e71, hf⟩ := pm_bd hf
    obtain ⟨v72, e73, hf⟩ := pm_bd hf
    have K74 := rgX5_callByTable (pr_sI (pr_sI K0 (pr_c K0 Hx0 e3)) (pr_c K0 Hx0 e3)) Hx0 e73
    exact rgX5_stepOnRegisters_b337 K74  hf
  have hf := pm_ie hf c67
  by_cases c75 : v7 = 500
  · have hf := pm_it hf c75
    obtain ⟨v76, e77, hf⟩ := pm_bd hf
    have K78 := rgX5_goFreely (pr_sI K0 (pr_c K0 Hx0 e3)) Hx0 e77
    have hf := Option.some.inj hf
    subst hf
    exact K78
  have hf := pm_ie hf c75
  obtain ⟨v79, e80, hf⟩ := pm_bd hf
  obtain ⟨v81, e82, hf⟩ := pm_bd hf
  obtain ⟨v83, e84, hf⟩ := pm_bd hf
  obtain ⟨v85, e86, hf⟩ := pm_bd hf
  obtain ⟨v87, e88, hf⟩ := pm_bd hf
  obtain ⟨v89, e90, hf⟩ := pm_bd hf
  obtain ⟨k91, hf⟩ := pm_if hf
  obtain ⟨v92, e93, hf⟩ := pm_bd hf
  have K94 := rgX10_perform (pr_sI K0 (pr_c K0 Hx0 e3)) (pr_c (pr_sI K0 (pr_c K0 Hx0 e3)) Hx0 e84) (pr_c (pr_sI K0 (pr_c K0 Hx0 e3)) (pr_c K0 Hx0 e3) e86) e93
  exact rgX5_stepOnRegisters_b386 K94 Hx0 hf
set_option maxHeartbeats 4000000 in
set_option maxRecDepth 100000 in
theorem rgX5_stepOnRegisters {A : Nat → Prop} {h0 h : pm_H} (K0 : pr_F A h0 h) {a0 : Nat} {p1 : Int32} (Ha0 : A a0) {r : pm_H} (hf : fX5_stepOnRegisters h a0 p1 = some r) : pr_F A h0 r := by
  unfold fX5_stepOnRegisters at hf
  exact rgX5_stepOnRegisters_b0 K0 Ha0 hf
set_option maxHeartbeats 4000000 in
set_option maxRecDepth 100000 in
theorem rgX5_stepOnStack_b547 {A : Nat → Prop} {h0 h : pm_H} (K0 : pr_F A h0 h) {x0 : Nat} {x5 : Int32} {s0 : Int64} (Hx0 : A x0) {r : pm_H} (hf : fX5_stepOnStack_b547 h x0 x5 s0 = some r) : pr_F A h0 r := by
  unfold fX5_stepOnStack_b547 at hf
  obtain ⟨k143, hf⟩ := pm_if hf
  obtain ⟨v144, e145, hf⟩ := pm_bd hf
  obtain ⟨k146, hf⟩ := pm_if hf
  by_cases c147 : (pm_I h v144 0) = 0
  · have hf := pm_it hf c147
    by_cases c148 : (x5 &&& 1) = 0
    · have hf := pm_it hf c148
      have hf := Option.some.inj hf
      subst hf
      exact K0
    · have hf := pm_ie hf c148
      obtain ⟨v149, e150, hf⟩ := pm_bd hf
      have K151 := rgX5_push K0 Hx0 e150
      have hf := Option.some.inj hf
      subst hf
      exact K151
  · have hf := pm_ie hf c147
    obtain ⟨v152, e153, hf⟩ := pm_bd hf
    have K154 := rgX5_fail K0 Hx0 e153
    have hf := Option.some.inj hf
    subst hf
    exact K154
set_option maxHeartbeats 4000000 in
set_option maxRecDepth 100000 in
theorem rgX5_stepOnStack_b521 {A : Nat → Prop} {h0 h : pm_H} (K0 : pr_F A h0 h) {x0 : Nat} {x2 : Int32} {x3 : Int32} {x4 : Int32} {x5 : Int32} {x9 : Int64} {x11 : Int64} {s0 : Int64} (Hx0 : A x0) {r : pm_H} (hf : fX5_stepOnStack_b521 h x0 x2 x3 x4 x5 x9 x11 s0 = some r) : pr_F A h0 r := by
  unfold fX5_stepOnStack_b521 at hf
  obtain ⟨k131, hf⟩ := pm_if hf
  obtain ⟨v132, e133, hf⟩ := pm_bd hf
  obtain ⟨v134, e135, hf⟩ := pm_bd hf
  obtain ⟨k136, hf⟩ := pm_if hf
  obtain ⟨v137, e138, hf⟩ := pm_bd hf
  obtain ⟨k139, hf⟩ := pm_if hf
  obtain ⟨v140, e141, hf⟩ := pm_bd hf
  have K142 := rgX10_perform K0 (pr_c K0 Hx0 e133) (pr_c K0 (pr_c K0 Hx0 e135) e138) e141
  exact rgX5_stepOnStack_b547 K142 Hx0 hf
set_option maxHeartbeats 4000000 in
set_option maxRecDepth 100000 in
theorem rgX5_stepOnStack_b493 {A : Nat → Prop} {h0 h : pm_H} (K0 : pr_F A h0 h) {x0 : Nat} {x2 : Int32} {x3 : Int32} {x4 : Int32} {x5 : Int32} {x8 : Int32} {x9 : Int64} {s0 : Int64} (Hx0 : A x0) {r : pm_H} (hf : fX5_stepOnStack_b493 h x0 x2 x3 x4 x5 x8 x9 s0 = some r) : pr_F A h0 r := by
  unfold fX5_stepOnStack_b493 at hf
  by_cases c122 : x8 ≤ 2
  · have hf := pm_it hf c122
    exact rgX5_stepOnStack_b521 K0 Hx0 hf
  · have hf := pm_ie hf c122
    obtain ⟨k123, hf⟩ := pm_if hf
    obtain ⟨v124, e125, hf⟩ := pm_bd hf
    obtain ⟨v126, e127, hf⟩ := pm_bd hf
    obtain ⟨k128, hf⟩ := pm_if hf
    obtain ⟨v129, e130, hf⟩ := pm_bd hf
    exact rgX5_stepOnStack_b521 K0 Hx0 hf
set_option maxHeartbeats 4000000 in
set_option maxRecDepth 100000 in
theorem rgX5_stepOnStack_b465 {A : Nat → Prop} {h0 h : pm_H} (K0 : pr_F A h0 h) {x0 : Nat} {x2 : Int32} {x3 : Int32} {x4 : Int32} {x5 : Int32} {x8 : Int32} {s0 : Int64} (Hx0 : A x0) {r : pm_H} (hf : fX5_stepOnStack_b465 h x0 x2 x3 x4 x5 x8 s0 = some r) : pr_F A h0 r := by
  unfold fX5_stepOnStack_b465 at hf
  by_cases c113 : x8 ≤ 1
  · have hf := pm_it hf c113
    exact rgX5_stepOnStack_b493 K0 Hx0 hf
  · have hf := pm_ie hf c113
    obtain ⟨k114, hf⟩ := pm_if hf
    obtain ⟨v115, e116, hf⟩ := pm_bd hf
    obtain ⟨v117, e118, hf⟩ := pm_bd hf
    obtain ⟨k119, hf⟩ := pm_if hf
    obtain ⟨v120, e121, hf⟩ := pm_bd hf
    exact rgX5_stepOnStack_b493 K0 Hx0 hf
set_option maxHeartbeats 4000000 in
set_option maxRecDepth 100000 in
theorem rgX5_stepOnStack_b318 {A : Nat → Prop} {h0 h : pm_H} (K0 : pr_F A h0 h)   {r : pm_H} (hf : fX5_stepOnStack_b318 h  = some r) : pr_F A h0 r := by
  unfold fX5_stepOnStack_b318 at hf
  have hf := Option.some.inj hf
  subst hf
  exact K0
set_option maxHeartbeats 4000000 in
set_option maxRecDepth 100000 in
theorem rgX5_stepOnStack_b0 {A : Nat → Prop} {h0 h : pm_H} (K0 : pr_F A h0 h) {x0 : Nat} (Hx0 : A x0) {r : pm_H} (hf : fX5_stepOnStack_b0 h x0 = some r) : pr_F A h0 r := by
  unfold fX5_stepOnStack_b0 at hf
  obtain ⟨k1, hf⟩ := pm_if hf
  obtain ⟨v2, e3, hf⟩ := pm_bd hf
  obtain ⟨k4, hf⟩ := pm_if hf
  obtain ⟨y5, e6, hf⟩ := pm_lt hf
  obtain ⟨v7, e8, hf⟩ := pm_bd hf
  obtain ⟨v9, e10, hf⟩ := pm_bd hf
  obtain ⟨v11, e12, hf⟩ := pm_bd hf
  obtain ⟨v13, e14, hf⟩ := pm_bd hf
  obtain ⟨v15, e16, hf⟩ := pm_bd hf
  obtain ⟨y17, e18, hf⟩ := pm_lt hf
  by_cases c19 : v9 = 4
  · have hf := pm_it hf c19
    obtain ⟨v20, e21, hf⟩ := pm_bd hf
    have K22 := rgX5_pop (pr_sI K0 (pr_c K0 Hx0 e3)) Hx0 e21
    by_cases c23 : v20.1 = 0
    · have hf := pm_it hf c23
      obtain ⟨k24, hf⟩ := pm_if hf
      obtain ⟨v25, e26, hf⟩ := pm_bd hf
      obtain ⟨k27, hf⟩ := pm_if hf
      have hf := Option.some.inj hf
      subst hf
      exact (pr_sI K22 (pr_c K22 Hx0 e26))
    · have hf := pm_ie hf c23
      have hf := Option.some.inj hf
      subst hf
      exact K22
  have hf := pm_ie hf c19
  by_cases c28 : v9 = 12
  · have hf := pm_it hf c28
    obtain ⟨v29, e30, hf⟩ := pm_bd hf
    have K31 := rgX5_branchOnStack (pr_sI K0 (pr_c K0 Hx0 e3)) Hx0 e30
    have hf := Option.some.inj hf
    subst hf
    exact K31
  have hf := pm_ie hf c28
  by_cases c32 : v9 = 13
  · have hf := pm_it hf c32
    obtain ⟨v33, e34, hf⟩ := pm_bd hf
    have K35 := rgX5_pop (pr_sI K0 (pr_c K0 Hx0 e3)) Hx0 e34
    by_cases c36 : v33.1 = 0
    · have hf := pm_it hf c36
      have hf := Option.some.inj hf
      subst hf
      exact K35
    · have hf := pm_ie hf c36
      obtain ⟨k37, hf⟩ := pm_if hf
      obtain ⟨v38, e39, hf⟩ := pm_bd hf
      have K40 := rgX5_branchOnStack K35 Hx0 e39
      have hf := Option.some.inj hf
      subst hf
      exact K40
  have hf := pm_ie hf c32
  by_cases c41 : v9 = 14
  · have hf := pm_it hf c41
    obtain ⟨v42, e43, hf⟩ := pm_bd hf
    have K44 := rgX5_pop (pr_sI K0 (pr_c K0 Hx0 e3)) Hx0 e43
    obtain ⟨k45, hf⟩ := pm_if hf
    obtain ⟨v46, e47, hf⟩ := pm_bd hf
    have K48 := rgX5_branchOnStack K44 Hx0 e47
    have hf := Option.some.inj hf
    subst hf
    exact K48
  have hf := pm_ie hf c41
  by_cases c49 : v9 = 16
  · have hf := pm_it hf c49
    obtain ⟨y50, e51, hf⟩ := pm_lt hf
    obtain ⟨v52, e53, hf⟩ := pm_bd hf
    obtain ⟨k54, hf⟩ := pm_if hf
    obtain ⟨v55, e56, hf⟩ := pm_bd hf
    obtain ⟨v57, e58, hf⟩ := pm_bd hf
    obtain ⟨v59, e60, hf⟩ := pm_bd hf
    have K61 := rgX5_enter (pr_sI (pr_sI K0 (pr_c K0 Hx0 e3)) (pr_c K0 Hx0 e3)) Hx0 e60
    have hf := Option.some.inj hf
    subst hf
    exact K61
  have hf := pm_ie hf c49
  by_cases c62 : v9 = 17
  · have hf := pm_it hf c62
    obtain ⟨v63, e64, hf⟩ := pm_bd hf
    have K65 := rgX5_pop (pr_sI K0 (pr_c K0 Hx0 e3)) Hx0 e64
    obtain ⟨k66, hf⟩ := pm_if hf
    obtain ⟨v67, e68, hf⟩ := pm_bd hf
    obtain ⟨k69, hf⟩ := pm_if hf
    obtain ⟨y70, e71, hf⟩ := pm_lt hf
    obtain ⟨v72, e73, hf⟩ := pm_bd hf
    have K74 := rgX5_callByTable (pr_sI K65 (pr_c K65 Hx0 e68)) Hx0 e73
    exact rgX5_stepOnStack_b318 K74  hf
  have hf := pm_ie hf c62
  by_cases c75 : v9 = 32
  · have hf := pm_it hf c75
    obtain ⟨v76, e77, hf⟩ := pm_bd hf
    obtain ⟨v78, e79, hf⟩ := pm_bd hf
    obtain ⟨v80, e81, hf⟩ := pm_bd hf
    have K82 := rgX5_push (pr_sI K0 (pr_c K0 Hx0 e3)) Hx0 e81
    have hf := Option.some.inj hf
    subst hf
    exact K82
  have hf := pm_ie hf c75
  by_cases c83 : v9 = 33
  · have hf := pm_it hf c83
    obtain ⟨v84, e85, hf⟩ := pm_bd hf
    obtain ⟨v86, e87, hf⟩ := pm_bd hf
    have K88 := rgX5_pop (pr_sI K0 (pr_c K0 Hx0 e3)) Hx0 e87
    obtain ⟨v89, e90, hf⟩ := pm_bd hf
    have K91 := rgX12_setItem_ K88 (pr_c (pr_sI K0 (pr_c K0 Hx0 e3)) Hx0 e85) e90
    have hf := Option.some.inj hf
    subst hf
    exact K91
  have hf := pm_ie hf c83
  by_cases c92 : v9 = 34
  · have hf := pm_it hf c92
    obtain ⟨v93, e94, hf⟩ := pm_bd hf
    obtain ⟨v95, e96, hf⟩ := pm_bd hf
    obtain ⟨v97, e98, hf⟩ := pm_bd hf
    have K99 := rgX12_setItem_ (pr_sI K0 (pr_c K0 Hx0 e3)) (pr_c (pr_sI K0 (pr_c K0 Hx0 e3)) Hx0 e94) e98
    have hf := Option.some.inj hf
    subst hf
    exact K99
  have hf := pm_ie hf c92
  by_cases c100 : v9 = 65
  · have hf := pm_it hf c100
    obtain ⟨v101, e102, hf⟩ := pm_bd hf
    have K103 := rgX5_push (pr_sI K0 (pr_c K0 Hx0 e3)) Hx0 e102
    have hf := Option.some.inj hf
    subst hf
    exact K103
  have hf := pm_ie hf c100
  obtain ⟨y104, e105, hf⟩ := pm_lt hf
  obtain ⟨y106, e107, hf⟩ := pm_lt hf
  by_cases c108 : y104 ≤ 0
  · have hf := pm_it hf c108
    exact rgX5_stepOnStack_b465 (pr_sI (pr_sI K0 (pr_c K0 Hx0 e3)) (pr_c K0 Hx0 e3)) Hx0 hf
  · have hf := pm_ie hf c108
    obtain ⟨v109, e110, hf⟩ := pm_bd hf
    obtain ⟨v111, e112, hf⟩ := pm_bd hf
    exact rgX5_stepOnStack_b465 (pr_sI (pr_sI K0 (pr_c K0 Hx0 e3)) (pr_c K0 Hx0 e3)) Hx0 hf
set_option maxHeartbeats 4000000 in
set_option maxRecDepth 100000 in
theorem rgX5_stepOnStack {A : Nat → Prop} {h0 h : pm_H} (K0 : pr_F A h0 h) {a0 : Nat} (Ha0 : A a0) {r : pm_H} (hf : fX5_stepOnStack h a0 = some r) : pr_F A h0 r := by
  unfold fX5_stepOnStack at hf
  exact rgX5_stepOnStack_b0 K0 Ha0 hf
set_option maxHeartbeats 4000000 in
set_option maxRecDepth 100000 in
theorem rlX10_fillSegments {A : Nat → Prop} {h0 : pm_H} {r : (Int32 × pm_H)} : ∀ n : Nat, (∀ (x0 : Nat) (x1 : Nat) (h : pm_H), pr_F A h0 h → A x0 → A x1 → pm_iter sX10_fillSegments n (.inl (x0, x1, h)) = some r → pr_F A h0 r.2) ∧ (∀ (x0 : Nat) (x1 : Nat) (x2 : Nat) (x3 : Int32) (h : pm_H), pr_F A h0 h → A x0 → A x1 → A x2 → pm_iter sX10_fillSegments n (.inr (.inl (x0, x1, x2, x3, h))) = some r → pr_F A h0 r.2) ∧ (∀ (x0 : Nat) (x1 : Nat) (x2 : Nat) (x3 : Int32) (h : pm_H), pr_F A h0 h → A x0 → A x1 → A x2 → pm_iter sX10_fillSegments n (.inr (.inr (.inl (x0, x1, x2, x3, h)))) = some r → pr_F A h0 r.2) ∧ (∀ (x0 : Nat) (x1 : Nat) (x2 : Nat) (x3 : Int32) (x5 : Int32) (s0 : Int64) (h : pm_H), pr_F A h0 h → A x0 → A x1 → A x2 → pm_iter sX10_fillSegments n (.inr (.inr (.inr (.inl (x0, x1, x2, x3, x5, s0, h))))) = some r → pr_F A h0 r.2) ∧ (∀ (x0 : Nat) (x1 : Nat) (x2 : Nat) (x3 : Int32) (s0 : Int64) (h : pm_H), pr_F A h0 h → A x0 → A x1 → A x2 → pm_iter sX10_fillSegments n (.inr (.inr (.inr (.inr (x0, x1, x2, x3, s0, h))))) = some r → pr_F A h0 r.2) := by
  intro n
  induction n with
  | zero => exact ⟨fun _ _ _ _ _ _ hf => (by cases hf), fun _ _ _ _ _ _ _ _ _ hf => (by cases hf), fun _ _ _ _ _ _ _ _ _ hf => (by cases hf), fun _ _ _ _ _ _ _ _ _ _ _ hf => (by cases hf), fun _ _ _ _ _ _ _ _ _ _ hf => (by cases hf)⟩
  | succ n ih =>
    refine ⟨fun x0 x1 h K0 Hx0 Hx1 hf => ?_, ?_⟩
    · obtain ⟨y, hf, hi⟩ := pm_iter_s hf
      have hf : tX10_fillSegments_0 x0 x1 h = some y := hf
      unfold tX10_fillSegments_0 at hf
      obtain ⟨k1, hf⟩ := pm_if hf
      obtain ⟨v2, e3, hf⟩ := pm_bd hf
      cases hf
      exact ih.2.1 x0 x1 v2 0 h K0 Hx0 Hx1 (pr_c K0 Hx1 e3) hi
    refine ⟨fun x0 x1 x2 x3 h K0 Hx0 Hx1 Hx2 hf => ?_, ?_⟩
    · obtain ⟨y, hf, hi⟩ := pm_iter_s hf
      have hf : tX10_fillSegments_7 x0 x1 x2 x3 h = some y := hf
      unfold tX10_fillSegments_7 at hf
      obtain ⟨k4, hf⟩ := pm_if hf
      obtain ⟨v5, e6, hf⟩ := pm_bd hf
      obtain ⟨k7, hf⟩ := pm_if hf
      by_cases c8 : (Int32.ofNat (pm_ln h v5)) ≤ x3
      · have hf := pm_it hf c8
        cases hf
        exact ih.2.2.1 x0 x1 x2 0 h K0 Hx0 Hx1 Hx2 hi
      · have hf := pm_ie hf c8
        obtain ⟨y9, e10, hf⟩ := pm_lt hf
        obtain ⟨k11, hf⟩ := pm_if hf
        obtain ⟨v12, e13, hf⟩ := pm_bd hf
        obtain ⟨v14, e15, hf⟩ := pm_bd hf
        by_cases c16 : v14 = 0
        · have hf := pm_it hf c16
          obtain ⟨k17, hf⟩ := pm_if hf
          obtain ⟨v18, e19, hf⟩ := pm_bd hf
          obtain ⟨v20, e21, hf⟩ := pm_bd hf
          obtain ⟨k22, hf⟩ := pm_if hf
          obtain ⟨v23, e24, hf⟩ := pm_bd hf
          have K25 := rgX9_open K0 (pr_c K0 Hx0 e19) Hx2 e24
          obtain ⟨k26, hf⟩ := pm_if hf
          obtain ⟨v27, e28, hf⟩ := pm_bd hf
          obtain ⟨v29, e30, hf⟩ := pm_bd hf
          obtain ⟨k31, hf⟩ := pm_if hf
          obtain ⟨v32, e33, hf⟩ := pm_bd hf
          have K34 := rgX10_constant K25 Hx0 Hx1 e33
          obtain ⟨k35, hf⟩ := pm_if hf
          obtain ⟨v36, e37, hf⟩ := pm_bd hf
          obtain ⟨v38, e39, hf⟩ := pm_bd hf
          obtain ⟨k40, hf⟩ := pm_if hf
          obtain ⟨v41, e42, hf⟩ := pm_bd hf
          have K43 := rgX10_perform K34 Hx0 Hx1 e42
          cases hf
          exact ih.2.2.2.1 x0 x1 x2 x3 v14 v41.1 v41.2 K43 Hx0 Hx1 Hx2 hi
        · have hf := pm_ie hf c16
          by_cases c44 : v14 = 1
          · have hf := pm_it hf c44
            obtain ⟨y45, e46, hf⟩ := pm_lt hf
            cases hf
            exact ih.2.1 x0 x1 x2 y45 h K0 Hx0 Hx1 Hx2 hi
          · have hf := pm_ie hf c44
            obtain ⟨v47, e48, hf⟩ := pm_bd hf
            obtain ⟨v49, e50, hf⟩ := pm_bd hf
            have K51 := rgX12_setItem K0 (pr_c K0 Hx1 e48) e50
            obtain ⟨y52, e53, hf⟩ := pm_lt hf
            cases hf
            exact ih.2.1 x0 x1 x2 y52 v49 K51 Hx0 Hx1 Hx2 hi
    refine ⟨fun x0 x1 x2 x3 h K0 Hx0 Hx1 Hx2 hf => ?_, ?_⟩
    · obtain ⟨y, hf, hi⟩ := pm_iter_s hf
      have hf : tX10_fillSegments_134 x0 x1 x2 x3 h = some y := hf
      unfold tX10_fillSegments_134 at hf
      obtain ⟨k54, hf⟩ := pm_if hf
      obtain ⟨v55, e56, hf⟩ := pm_bd hf
      obtain ⟨k57, hf⟩ := pm_if hf
      by_cases c58 : (Int32.ofNat (pm_ln h v55)) ≤ x3
      · have hf := pm_it hf c58
        have hf := Option.some.inj hf
        subst hf
        have hi := Option.some.inj (show some _ = some r from hi)
        subst hi
        exact K0
      · have hf := pm_ie hf c58
        obtain ⟨y59, e60, hf⟩ := pm_lt hf
        obtain ⟨k61, hf⟩ := pm_if hf
        obtain ⟨v62, e63, hf⟩ := pm_bd hf
        obtain ⟨v64, e65, hf⟩ := pm_bd hf
        by_cases c66 : v64 = 0
        · have hf := pm_it hf c66
          obtain ⟨k67, hf⟩ := pm_if hf
          obtain ⟨v68, e69, hf⟩ := pm_bd hf
          obtain ⟨v70, e71, hf⟩ := pm_bd hf
          obtain ⟨k72, hf⟩ := pm_if hf
          obtain ⟨v73, e74, hf⟩ := pm_bd hf
          have K75 := rgX9_open K0 (pr_c K0 Hx0 e69) Hx2 e74
          obtain ⟨k76, hf⟩ := pm_if hf
          obtain ⟨v77, e78, hf⟩ := pm_bd hf
          have K79 := rgX10_constant K75 Hx0 Hx1 e78
          obtain ⟨k80, hf⟩ := pm_if hf
          obtain ⟨v81, e82, hf⟩ := pm_bd hf
          obtain ⟨v83, e84, hf⟩ := pm_bd hf
          obtain ⟨k85, hf⟩ := pm_if hf
          obtain ⟨v86, e87, hf⟩ := pm_bd hf
          have K88 := rgX10_perform K79 Hx0 Hx1 e87
          cases hf
          exact ih.2.2.2.2 x0 x1 x2 x3 v86.1 v86.2 K88 Hx0 Hx1 Hx2 hi
        · have hf := pm_ie hf c66
          obtain ⟨y89, e90, hf⟩ := pm_lt hf
          cases hf
          exact ih.2.2.1 x0 x1 x2 y89 h K0 Hx0 Hx1 Hx2 hi
    refine ⟨fun x0 x1 x2 x3 x5 s0 h K0 Hx0 Hx1 Hx2 hf => ?_, ?_⟩
    · obtain ⟨y, hf, hi⟩ := pm_iter_s hf
      have hf : tX10_fillSegments_98 x0 x1 x2 x3 x5 s0 h = some y := hf
      unfold tX10_fillSegments_98 at hf
      obtain ⟨k91, hf⟩ := pm_if hf
      by_cases c92 : (pm_I h x0 0) = 0
      · have hf := pm_it hf c92
        by_cases c93 : x5 = 1
        · have hf := pm_it hf c93
          obtain ⟨y94, e95, hf⟩ := pm_lt hf
          cases hf
          exact ih.2.1 x0 x1 x2 y94 h K0 Hx0 Hx1 Hx2 hi
        · have hf := pm_ie hf c93
          obtain ⟨k96, hf⟩ := pm_if hf
          obtain ⟨v97, e98, hf⟩ := pm_bd hf
          obtain ⟨v99, e100, hf⟩ := pm_bd hf
          have K101 := rgX12_setItem K0 (pr_c K0 Hx1 e98) e100
          obtain ⟨y102, e103, hf⟩ := pm_lt hf
          cases hf
          exact ih.2.1 x0 x1 x2 y102 v99 K101 Hx0 Hx1 Hx2 hi
      · have hf := pm_ie hf c92
        have hf := Option.some.inj hf
        subst hf
        have hi := Option.some.inj (show some _ = some r from hi)
        subst hi
        exact K0
    refine fun x0 x1 x2 x3 s0 h K0 Hx0 Hx1 Hx2 hf => ?_
    obtain ⟨y, hf, hi⟩ := pm_iter_s hf
    have hf : tX10_fillSegments_210 x0 x1 x2 x3 s0 h = some y := hf
    unfold tX10_fillSegments_210 at hf
    obtain ⟨k104, hf⟩ := pm_if hf
    by_cases c105 : (pm_I h x0 0) = 0
    · have hf := pm_it hf c105
      obtain ⟨k106, hf⟩ := pm_if hf
      obtain ⟨v107, e108, hf⟩ := pm_bd hf
      obtain ⟨v109, e110, hf⟩ := pm_bd hf
      have K111 := rgX12_setItem K0 (pr_c K0 Hx1 e108) e110
      obtain ⟨y112, e113, hf⟩ := pm_lt hf
      cases hf
      exact ih.2.2.1 x0 x1 x2 y112 v109 K111 Hx0 Hx1 Hx2 hi
    · have hf := pm_ie hf c105
      have hf := Option.some.inj hf
      subst hf
      have hi := Option.some.inj (show some _ = some r from hi)
      subst hi
      exact K0
set_option maxHeartbeats 4000000 in
set_option maxRecDepth 100000 in
theorem rgX10_fillSegments {A : Nat → Prop} {h0 h : pm_H} (K0 : pr_F A h0 h) {a0 : Nat} {p1 : Nat} (Ha0 : A a0) (Hp1 : A p1) {r : (Int32 × pm_H)} (hf : fX10_fillSegments h a0 p1 = some r) : pr_F A h0 r.2 := by
  unfold fX10_fillSegments at hf
  obtain ⟨n, hn⟩ := pm_lim_iter hf
  exact (rlX10_fillSegments n).1 a0 p1 h K0 Ha0 Hp1 hn
set_option maxHeartbeats 4000000 in
set_option maxRecDepth 100000 in
theorem rgX12_make_b155 {A : Nat → Prop} {h0 h : pm_H} (K0 : pr_F A h0 h) {x0 : Nat} (Hx0 : A x0) {r : (Int32 × pm_H)} (hf : fX12_make_b155 h x0 = some r) : pr_F A h0 r.2 := by
  unfold fX12_make_b155 at hf
  obtain ⟨k68, hf⟩ := pm_if hf
  obtain ⟨v69, e70, hf⟩ := pm_bd hf
  obtain ⟨k71, hf⟩ := pm_if hf
  have hf := Option.some.inj hf
  subst hf
  exact K0
set_option maxHeartbeats 4000000 in
set_option maxRecDepth 100000 in
theorem rgX12_make_b102 {A : Nat → Prop} {h0 h : pm_H} (K0 : pr_F A h0 h) {x0 : Nat} {x2 : Nat} {x5 : Nat} {s0 : Int32} (Hx0 : A x0) (Hx2 : A x2) (Hx5 : A x5) {r : (Int32 × pm_H)} (hf : fX12_make_b102 h x0 x2 x5 s0 = some r) : pr_F A h0 r.2 := by
  unfold fX12_make_b102 at hf
  by_cases c44 : s0 = 0
  · have hf := pm_it hf c44
    obtain ⟨k45, hf⟩ := pm_if hf
    by_cases c46 : (pm_L h x2 13) < 0
    · have hf := pm_it hf c46
      exact rgX12_make_b155 K0 Hx0 hf
    · have hf := pm_ie hf c46
      obtain ⟨k47, hf⟩ := pm_if hf
      obtain ⟨v48, e49, hf⟩ := pm_bd hf
      obtain ⟨k50, hf⟩ := pm_if hf
      obtain ⟨v51, e52, hf⟩ := pm_bd hf
      obtain ⟨v53, e54, hf⟩ := pm_bd hf
      obtain ⟨v55, e56, hf⟩ := pm_bd hf
      obtain ⟨k57, hf⟩ := pm_if hf
      obtain ⟨v58, e59, hf⟩ := pm_bd hf
      have K60 := rgX5_begin K0 (pr_c K0 Hx0 e49) (pr_c K0 Hx0 e56) e59
      exact rgX12_make_b155 K60 Hx0 hf
  · have hf := pm_ie hf c44
    obtain ⟨k61, hf⟩ := pm_if hf
    obtain ⟨v62, e63, hf⟩ := pm_bd hf
    obtain ⟨k64, hf⟩ := pm_if hf
    obtain ⟨v65, e66, hf⟩ := pm_bd hf
    have K67 := rgX5_failAtMaking K0 (pr_c K0 Hx0 e63) e66
    exact rgX12_make_b155 K67 Hx0 hf
set_option maxHeartbeats 4000000 in
set_option maxRecDepth 100000 in
theorem rgX12_make_b91 {A : Nat → Prop} {h0 h : pm_H} (K0 : pr_F A h0 h) {x0 : Nat} {x2 : Nat} {s0 : Nat} (Hx0 : A x0) (Hx2 : A x2) (Hs0 : A s0) {r : (Int32 × pm_H)} (hf : fX12_make_b91 h x0 x2 s0 = some r) : pr_F A h0 r.2 := by
  unfold fX12_make_b91 at hf
  obtain ⟨k37, hf⟩ := pm_if hf
  obtain ⟨v38, e39, hf⟩ := pm_bd hf
  obtain ⟨k40, hf⟩ := pm_if hf
  obtain ⟨v41, e42, hf⟩ := pm_bd hf
  have K43 := rgX10_fillSegments K0 (pr_c K0 Hx0 e39) Hs0 e42
  exact rgX12_make_b102 K43 Hx0 Hx2 Hs0 hf
set_option maxHeartbeats 4000000 in
set_option maxRecDepth 100000 in
theorem rgX12_make_b59 {A : Nat → Prop} {h0 h : pm_H} (K0 : pr_F A h0 h) {x0 : Nat} {x2 : Nat} {s0 : Int32} (Hx0 : A x0) (Hx2 : A x2) {r : (Int32 × pm_H)} (hf : fX12_make_b59 h x0 x2 s0 = some r) : pr_F A h0 r.2 := by
  unfold fX12_make_b59 at hf
  obtain ⟨k25, hf⟩ := pm_if hf
  obtain ⟨y26, e27, hf⟩ := pm_lt hf
  by_cases c28 : s0 = 0
  · have hf := pm_it hf c28
    obtain ⟨v29, e30, hf⟩ := pm_bd hf
    obtain ⟨v31, e32, hf⟩ := pm_bd hf
    obtain ⟨k33, hf⟩ := pm_if hf
    obtain ⟨v34, e35, hf⟩ := pm_bd hf
    have K36 := rgX10_create (pr_sI K0 Hx0) (pr_c (pr_sI K0 Hx0) Hx0 e30) Hx2 (pr_c (pr_sI K0 Hx0) Hx0 e32) e35
    exact rgX12_make_b91 K36.1 Hx0 Hx2 K36.2 hf
  · have hf := pm_ie hf c28
    have hf := Option.some.inj hf
    subst hf
    exact (pr_sI K0 Hx0)
set_option maxHeartbeats 4000000 in
set_option maxRecDepth 100000 in
theorem rgX12_make_b0 {A : Nat → Prop} {h0 h : pm_H} (K0 : pr_F A h0 h) {x0 : Nat} {x1 : Int32} (Hx0 : A x0) {r : (Int32 × pm_H)} (hf : fX12_make_b0 h x0 x1 = some r) : pr_F A h0 r.2 := by
  unfold fX12_make_b0 at hf
  by_cases c1 : x1 < 0
  · have hf := pm_it hf c1
    have hf := Option.some.inj hf
    subst hf
    exact K0
  · have hf := pm_ie hf c1
    obtain ⟨k2, hf⟩ := pm_if hf
    by_cases c3 : (pm_I h x0 4) ≤ x1
    · have hf := pm_it hf c3
      have hf := Option.some.inj hf
      subst hf
      exact K0
    · have hf := pm_ie hf c3
      obtain ⟨v4, e5, hf⟩ := pm_bd hf
      obtain ⟨k6, hf⟩ := pm_if hf
      by_cases c7 : x1 < (Int32.ofNat (pm_ln h v4))
      · have hf := pm_it hf c7
        obtain ⟨v8, e9, hf⟩ := pm_bd hf
        obtain ⟨k10, hf⟩ := pm_if hf
        obtain ⟨v11, e12, hf⟩ := pm_bd hf
        by_cases c13 : v11 = 0
        · have hf := pm_it hf c13
          obtain ⟨u14, hf⟩ := pm_if hf
          obtain ⟨v15, e16, hf⟩ := pm_bd hf
          obtain ⟨v17, e18, hf⟩ := pm_bd hf
          obtain ⟨v19, e20, hf⟩ := pm_bd hf
          obtain ⟨k21, hf⟩ := pm_if hf
          obtain ⟨v22, e23, hf⟩ := pm_bd hf
          have K24 := rgX10_refusal K0 (pr_c K0 Hx0 e18) (pr_c K0 (pr_c K0 Hx0 e5) e16) (pr_c K0 Hx0 e20) e23
          exact rgX12_make_b59 K24 Hx0 (pr_c K0 (pr_c K0 Hx0 e5) e16) hf
        · have hf := pm_ie hf c13
          have hf := Option.some.inj hf
          subst hf
          exact K0
      · have hf := pm_ie hf c7
        have hf := Option.some.inj hf
        subst hf
        exact K0
set_option maxHeartbeats 4000000 in
set_option maxRecDepth 100000 in
theorem rgX12_make {A : Nat → Prop} {h0 h : pm_H} (K0 : pr_F A h0 h) {a0 : Nat} {p1 : Int32} (Ha0 : A a0) {r : (Int32 × pm_H)} (hf : fX12_make h a0 p1 = some r) : pr_F A h0 r.2 := by
  unfold fX12_make at hf
  exact rgX12_make_b0 K0 Ha0 hf
set_option maxHeartbeats 4000000 in
set_option maxRecDepth 100000 in
theorem rlX12_module {A : Nat → Prop} {h0 : pm_H} {r : (Int32 × pm_H)} : ∀ n : Nat, (∀ (x0 : Nat) (x1 : Int32) (h : pm_H), pr_F A h0 h → A x0 → pm_iter sX12_module n (.inl (x0, x1, h)) = some r → pr_F A h0 r.2) ∧ (∀ (x0 : Nat) (x1 : Int32) (s0 : Nat) (h : pm_H), pr_F A h0 h → A x0 → A s0 → pm_iter sX12_module n (.inr (.inl (x0, x1, s0, h))) = some r → pr_F A h0 r.2) ∧ (∀ (x0 : Nat) (x1 : Int32) (s0 : Nat) (s1 : Nat) (s2 : Nat) (h : pm_H), pr_F A h0 h → A x0 → A s0 → A s1 → A s2 → pm_iter sX12_module n (.inr (.inr (.inl (x0, x1, s0, s1, s2, h)))) = some r → pr_F A h0 r.2) ∧ (∀ (x0 : Nat) (x1 : Int32) (s0 : Nat) (h : pm_H), pr_F A h0 h → A x0 → A s0 → pm_iter sX12_module n (.inr (.inr (.inr (.inl (x0, x1, s0, h))))) = some r → pr_F A h0 r.2) ∧ (∀ (x0 : Nat) (x1 : Int32) (x2 : Nat) (x3 : Int32) (h : pm_H), pr_F A h0 h → A x0 → A x2 → pm_iter sX12_module n (.inr (.inr (.inr (.inr (.inl (x0, x1, x2, x3, h)))))) = some r → pr_F A h0 r.2) ∧ (∀ (x0 : Nat) (x2 : Nat) (h : pm_H), pr_F A h0 h → A x0 → A x2 → pm_iter sX12_module n (.inr (.inr (.inr (.inr (.inr (.inl (x0, x2, h))))))) = some r → pr_F A h0 r.2) ∧ (∀ (x0 : Nat) (x1 : Int32) (x2 : Nat) (x3 : Int32) (h : pm_H), pr_F A h0 h → A x0 → A x2 → pm_iter sX12_module n (.inr (.inr (.inr (.inr (.inr (.inr (.inl (x0, x1, x2, x3, h)))))))) = some r → pr_F A h0 r.2) ∧ (∀ (x0 : Nat) (x2 : Nat) (h : pm_H), pr_F A h0 h → A x0 → A x2 → pm_iter sX12_module n (.inr (.inr (.inr (.inr (.inr (.inr (.inr (.inl (x0, x2, h))))))))) = some r → pr_F A h0 r.2) ∧ (∀ (x0 : Nat) (x2 : Nat) (x3 : Int32) (h : pm_H), pr_F A h0 h → A x0 → A x2 → pm_iter sX12_module n (.inr (.inr (.inr (.inr (.inr (.inr (.inr (.inr (.inl (x0, x2, x3, h)))))))))) = some r → pr_F A h0 r.2) ∧ (∀ (x0 : Nat) (x2 : Nat) (h : pm_H), pr_F A h0 h → A x0 → A x2 → pm_iter sX12_module n (.inr (.inr (.inr (.inr (.inr (.inr (.inr (.inr (.inr (.inl (x0, x2, h))))))))))) = some r → pr_F A h0 r.2) ∧ (∀ (x0 : Nat) (x2 : Nat) (x3 : Int32) (h : pm_H), pr_F A h0 h → A x0 → A x2 → pm_iter sX12_module n (.inr (.inr (.inr (.inr (.inr (.inr (.inr (.inr (.inr (.inr (x0, x2, x3, h))))))))))) = some r → pr_F A h0 r.2) := by
  intro n
  induction n with
  | zero => exact ⟨fun _ _ _ _ _ hf => (by cases hf), fun _ _ _ _ _ _ _ hf => (by cases hf), fun _ _ _ _ _ _ _ _ _ _ _ hf => (by cases hf), fun _ _ _ _ _ _ _ hf => (by cases hf), fun _ _ _ _ _ _ _ _ hf => (by cases hf), fun _ _ _ _ _ _ hf => (by cases hf), fun _ _ _ _ _ _ _ _ hf => (by cases hf), fun _ _ _ _ _ _ hf => (by cases hf), fun _ _ _ _ _ _ _ hf => (by cases hf), fun _ _ _ _ _ _ hf => (by cases hf), fun _ _ _ _ _ _ _ hf => (by cases hf)⟩
  | succ n ih =>
    refine ⟨fun x0 x1 h K0 Hx0 hf => ?_, ?_⟩
    · obtain ⟨y, hf, hi⟩ := pm_iter_s hf
      have hf : tX12_module_0 x0 x1 h = some y := hf
      unfold tX12_module_0 at hf
      by_cases c1 : x1 < 0
      · have hf := pm_it hf c1
        have hf := Option.some.inj hf
        subst hf
        have hi := Option.some.inj (show some _ = some r from hi)
        subst hi
        exact K0
      · have hf := pm_ie hf c1
        obtain ⟨k2, hf⟩ := pm_if hf
        by_cases c3 : (pm_I h x0 1) < x1
        · have hf := pm_it hf c3
          have hf := Option.some.inj hf
          subst hf
          have hi := Option.some.inj (show some _ = some r from hi)
          subst hi
          exact K0
        · have hf := pm_ie hf c3
          by_cases c4 : 40960 < x1
          · have hf := pm_it hf c4
            have hf := Option.some.inj hf
            subst hf
            have hi := Option.some.inj (show some _ = some r from hi)
            subst hi
            exact K0
          · have hf := pm_ie hf c4
            obtain ⟨v5, e6, hf⟩ := pm_bd hf
            obtain ⟨k7, hf⟩ := pm_if hf
            by_cases c8 : (pm_I h x0 4) < (Int32.ofNat (pm_ln h v5))
            · have hf := pm_it hf c8
              cases hf
              exact ih.2.1 x0 x1 (pm_sz h) (pm_new h 7 0) (pr_new K0) Hx0 (pr_n K0) hi
            · have hf := pm_ie hf c8
              have hf := Option.some.inj hf
              subst hf
              have hi := Option.some.inj (show some _ = some r from hi)
              subst hi
              exact K0
    refine ⟨fun x0 x1 s0 h K0 Hx0 Hs0 hf => ?_, ?_⟩
    · obtain ⟨y, hf, hi⟩ := pm_iter_s hf
      have hf : tX12_module_36 x0 x1 s0 h = some y := hf
      unfold tX12_module_36 at hf
      obtain ⟨k9, hf⟩ := pm_if hf
      obtain ⟨v10, e11, hf⟩ := pm_bd hf
      obtain ⟨v12, e13, hf⟩ := pm_bd hf
      have K14 := rgJ7_copyOf_9075b K0 (pr_c K0 Hx0 e11) e13
      cases hf
      exact ih.2.2.1 x0 x1 v12.1 s0 s0 v12.2 K14.1 Hx0 K14.2 Hs0 Hs0 hi
    refine ⟨fun x0 x1 s0 s1 s2 h K0 Hx0 Hs0 Hs1 Hs2 hf => ?_, ?_⟩
    · obtain ⟨y, hf, hi⟩ := pm_iter_s hf
      have hf : tX12_module_45 x0 x1 s0 s1 s2 h = some y := hf
      unfold tX12_module_45 at hf
      obtain ⟨v15, e16, hf⟩ := pm_bd hf
      have K17 := rgX7_init K0 Hs1 Hs0 e16
      cases hf
      exact ih.2.2.2.1 x0 x1 s2 v15 K17 Hx0 Hs2 hi
    refine ⟨fun x0 x1 s0 h K0 Hx0 Hs0 hf => ?_, ?_⟩
    · obtain ⟨y, hf, hi⟩ := pm_iter_s hf
      have hf : tX12_module_48 x0 x1 s0 h = some y := hf
      unfold tX12_module_48 at hf
      obtain ⟨k18, hf⟩ := pm_if hf
      obtain ⟨v19, e20, hf⟩ := pm_bd hf
      obtain ⟨k21, hf⟩ := pm_if hf
      obtain ⟨v22, e23, hf⟩ := pm_bd hf
      have K24 := rgX9_begin (pr_sI (pr_sI K0 Hx0) Hx0) (pr_c (pr_sI (pr_sI K0 Hx0) Hx0) Hx0 e20) Hs0 e23
      cases hf
      exact ih.2.2.2.2.1 x0 x1 s0 0 v22 K24 Hx0 Hs0 hi
    refine ⟨fun x0 x1 x2 x3 h K0 Hx0 Hx2 hf => ?_, ?_⟩
    · obtain ⟨y, hf, hi⟩ := pm_iter_s hf
      have hf : tX12_module_69 x0 x1 x2 x3 h = some y := hf
      unfold tX12_module_69 at hf
      by_cases c25 : x1 ≤ x3
      · have hf := pm_it hf c25
        cases hf
        exact ih.2.2.2.2.2.1 x0 x2 h K0 Hx0 Hx2 hi
      · have hf := pm_ie hf c25
        obtain ⟨k26, hf⟩ := pm_if hf
        obtain ⟨v27, e28, hf⟩ := pm_bd hf
        obtain ⟨k29, hf⟩ := pm_if hf
        obtain ⟨v30, e31, hf⟩ := pm_bd hf
        by_cases c32 : v30 = 0
        · have hf := pm_it hf c32
          cases hf
          exact ih.2.2.2.2.2.1 x0 x2 h K0 Hx0 Hx2 hi
        · have hf := pm_ie hf c32
          obtain ⟨v33, e34, hf⟩ := pm_bd hf
          have K35 := rgX9_advance K0 (pr_c K0 Hx0 e28) e34
          cases hf
          exact ih.2.2.2.2.2.2.1 x0 x1 x2 x3 v33 K35 Hx0 Hx2 hi
    refine ⟨fun x0 x2 h K0 Hx0 Hx2 hf => ?_, ?_⟩
    · obtain ⟨y, hf, hi⟩ := pm_iter_s hf
      have hf : tX12_module_97 x0 x2 h = some y := hf
      unfold tX12_module_97 at hf
      obtain ⟨k36, hf⟩ := pm_if hf
      obtain ⟨v37, e38, hf⟩ := pm_bd hf
      obtain ⟨k39, hf⟩ := pm_if hf
      obtain ⟨v40, e41, hf⟩ := pm_bd hf
      have K42 := rgX9_finish K0 (pr_c K0 Hx0 e38) e41
      obtain ⟨k43, hf⟩ := pm_if hf
      obtain ⟨v44, e45, hf⟩ := pm_bd hf
      obtain ⟨k46, hf⟩ := pm_if hf
      obtain ⟨y47, e48, hf⟩ := pm_lt hf
      obtain ⟨y49, e50, hf⟩ := pm_lt hf
      by_cases c51 : (pm_I (pm_setI (pm_setI v40 x0 6 y47) x0 7 y49) x0 6) = 0
      · have hf := pm_it hf c51
        obtain ⟨v52, e53, hf⟩ := pm_bd hf
        obtain ⟨k54, hf⟩ := pm_if hf
        obtain ⟨v55, e56, hf⟩ := pm_bd hf
        have K57 := rgX1_check (pr_sI (pr_sI K42 Hx0) Hx0) (pr_c (pr_sI (pr_sI K42 Hx0) Hx0) Hx0 e53) Hx2 e56
        cases hf
        exact ih.2.2.2.2.2.2.2.1 x0 x2 v55 K57 Hx0 Hx2 hi
      · have hf := pm_ie hf c51
        by_cases c58 : (pm_I (pm_setI (pm_setI v40 x0 6 y47) x0 7 y49) x0 6) = 0
        · have hf := pm_it hf c58
          obtain ⟨v59, e60, hf⟩ := pm_bd hf
          obtain ⟨k61, hf⟩ := pm_if hf
          obtain ⟨k62, hf⟩ := pm_if hf
          obtain ⟨u63, hf⟩ := pm_if hf
          obtain ⟨y64, e65, hf⟩ := pm_lt hf
          have hf := Option.some.inj hf
          subst hf
          have hi := Option.some.inj (show some _ = some r from hi)
          subst hi
          exact (pr_sI (pr_sR (pr_sI (pr_sI (pr_sI K42 Hx0) Hx0) Hx0) (pr_c (pr_sI (pr_sI (pr_sI K42 Hx0) Hx0) Hx0) Hx0 e60) Hx2) Hx0)
        · have hf := pm_ie hf c58
          have hf := Option.some.inj hf
          subst hf
          have hi := Option.some.inj (show some _ = some r from hi)
          subst hi
          exact (pr_sI (pr_sI K42 Hx0) Hx0)
    refine ⟨fun x0 x1 x2 x3 h K0 Hx0 Hx2 hf => ?_, ?_⟩
    · obtain ⟨y, hf, hi⟩ := pm_iter_s hf
      have hf : tX12_module_91 x0 x1 x2 x3 h = some y := hf
      unfold tX12_module_91 at hf
      obtain ⟨y66, e67, hf⟩ := pm_lt hf
      cases hf
      exact ih.2.2.2.2.1 x0 x1 x2 y66 h K0 Hx0 Hx2 hi
    refine ⟨fun x0 x2 h K0 Hx0 Hx2 hf => ?_, ?_⟩
    · obtain ⟨y, hf, hi⟩ := pm_iter_s hf
      have hf : tX12_module_148 x0 x2 h = some y := hf
      unfold tX12_module_148 at hf
      cases hf
      exact ih.2.2.2.2.2.2.2.2.1 x0 x2 0 h K0 Hx0 Hx2 hi
    refine ⟨fun x0 x2 x3 h K0 Hx0 Hx2 hf => ?_, ?_⟩
    · obtain ⟨y, hf, hi⟩ := pm_iter_s hf
      have hf : tX12_module_150 x0 x2 x3 h = some y := hf
      unfold tX12_module_150 at hf
      obtain ⟨k68, hf⟩ := pm_if hf
      obtain ⟨v69, e70, hf⟩ := pm_bd hf
      obtain ⟨k71, hf⟩ := pm_if hf
      by_cases c72 : (Int32.ofNat (pm_ln h v69)) ≤ x3
      · have hf := pm_it hf c72
        cases hf
        exact ih.2.2.2.2.2.2.2.2.2.1 x0 x2 h K0 Hx0 Hx2 hi
      · have hf := pm_ie hf c72
        obtain ⟨k73, hf⟩ := pm_if hf
        obtain ⟨v74, e75, hf⟩ := pm_bd hf
        obtain ⟨k76, hf⟩ := pm_if hf
        by_cases c77 : (pm_I h v74 0) = 0
        · have hf := pm_it hf c77
          obtain ⟨v78, e79, hf⟩ := pm_bd hf
          have K80 := rgX1_body K0 (pr_c K0 Hx0 e75) e79
          cases hf
          exact ih.2.2.2.2.2.2.2.2.2.2 x0 x2 x3 v78 K80 Hx0 Hx2 hi
        · have hf := pm_ie hf c77
          cases hf
          exact ih.2.2.2.2.2.2.2.2.2.1 x0 x2 h K0 Hx0 Hx2 hi
    refine ⟨fun x0 x2 h K0 Hx0 Hx2 hf => ?_, ?_⟩
    · obtain ⟨y, hf, hi⟩ := pm_iter_s hf
      have hf : tX12_module_183 x0 x2 h = some y := hf
      unfold tX12_module_183 at hf
      obtain ⟨k81, hf⟩ := pm_if hf
      obtain ⟨v82, e83, hf⟩ := pm_bd hf
      obtain ⟨k84, hf⟩ := pm_if hf
      obtain ⟨y85, e86, hf⟩ := pm_lt hf
      obtain ⟨y87, e88, hf⟩ := pm_lt hf
      by_cases c89 : (pm_I (pm_setI (pm_setI h x0 6 y85) x0 7 y87) x0 6) = 0
      · have hf := pm_it hf c89
        obtain ⟨v90, e91, hf⟩ := pm_bd hf
        obtain ⟨k92, hf⟩ := pm_if hf
        obtain ⟨k93, hf⟩ := pm_if hf
        obtain ⟨u94, hf⟩ := pm_if hf
        obtain ⟨y95, e96, hf⟩ := pm_lt hf
        have hf := Option.some.inj hf
        subst hf
        have hi := Option.some.inj (show some _ = some r from hi)
        subst hi
        exact (pr_sI (pr_sR (pr_sI (pr_sI (pr_sI K0 Hx0) Hx0) Hx0) (pr_c (pr_sI (pr_sI (pr_sI K0 Hx0) Hx0) Hx0) Hx0 e91) Hx2) Hx0)
      · have hf := pm_ie hf c89
        have hf := Option.some.inj hf
        subst hf
        have hi := Option.some.inj (show some _ = some r from hi)
        subst hi
        exact (pr_sI (pr_sI K0 Hx0) Hx0)
    refine fun x0 x2 x3 h K0 Hx0 Hx2 hf => ?_
    obtain ⟨y, hf, hi⟩ := pm_iter_s hf
    have hf : tX12_module_177 x0 x2 x3 h = some y := hf
    unfold tX12_module_177 at hf
    obtain ⟨y97, e98, hf⟩ := pm_lt hf
    cases hf
    exact ih.2.2.2.2.2.2.2.2.1 x0 x2 y97 h K0 Hx0 Hx2 hi
set_option maxHeartbeats 4000000 in
set_option maxRecDepth 100000 in
theorem rgX12_module {A : Nat → Prop} {h0 h : pm_H} (K0 : pr_F A h0 h) {a0 : Nat} {p1 : Int32} (Ha0 : A a0) {r : (Int32 × pm_H)} (hf : fX12_module h a0 p1 = some r) : pr_F A h0 r.2 := by
  unfold fX12_module at hf
  obtain ⟨n, hn⟩ := pm_lim_iter hf
  exact (rlX12_module n).1 a0 p1 h K0 Ha0 hn
set_option maxHeartbeats 4000000 in
set_option maxRecDepth 100000 in
theorem rlX5_advance {A : Nat → Prop} {h0 : pm_H} {r : (Int32 × pm_H)} : ∀ n : Nat, (∀ (x0 : Nat) (x1 : Int32) (h : pm_H), pr_F A h0 h → A x0 → pm_iter sX5_advance n (.inl (x0, x1, h)) = some r → pr_F A h0 r.2) ∧ (∀ (x0 : Nat) (x1 : Int32) (x2 : Int32) (x3 : Int32) (h : pm_H), pr_F A h0 h → A x0 → pm_iter sX5_advance n (.inr (.inl (x0, x1, x2, x3, h))) = some r → pr_F A h0 r.2) ∧ (∀ (x0 : Nat) (x1 : Int32) (x2 : Int32) (x3 : Int32) (x6 : Int32) (h : pm_H), pr_F A h0 h → A x0 → pm_iter sX5_advance n (.inr (.inr (.inl (x0, x1, x2, x3, x6, h)))) = some r → pr_F A h0 r.2) ∧ (∀ (x0 : Nat) (x1 : Int32) (x2 : Int32) (x3 : Int32) (h : pm_H), pr_F A h0 h → A x0 → pm_iter sX5_advance n (.inr (.inr (.inr (.inl (x0, x1, x2, x3, h))))) = some r → pr_F A h0 r.2) ∧ (∀ (x0 : Nat) (x1 : Int32) (x2 : Int32) (x3 : Int32) (h : pm_H), pr_F A h0 h → A x0 → pm_iter sX5_advance n (.inr (.inr (.inr (.inr (x0, x1, x2, x3, h))))) = some r → pr_F A h0 r.2) := by
  intro n
  induction n with
  | zero => exact ⟨fun _ _ _ _ _ hf => (by cases hf), fun _ _ _ _ _ _ _ hf => (by cases hf), fun _ _ _ _ _ _ _ _ hf => (by cases hf), fun _ _ _ _ _ _ _ hf => (by cases hf), fun _ _ _ _ _ _ _ hf => (by cases hf)⟩
  | succ n ih =>
    refine ⟨fun x0 x1 h K0 Hx0 hf => ?_, ?_⟩
    · obtain ⟨y, hf, hi⟩ := pm_iter_s hf
      have hf : tX5_advance_0 x0 x1 h = some y := hf
      unfold tX5_advance_0 at hf
      cases hf
      exact ih.2.1 x0 x1 0 0 h K0 Hx0 hi
    refine ⟨fun x0 x1 x2 x3 h K0 Hx0 hf => ?_, ?_⟩
    · obtain ⟨y, hf, hi⟩ := pm_iter_s hf
      have hf : tX5_advance_4 x0 x1 x2 x3 h = some y := hf
      unfold tX5_advance_4 at hf
      by_cases c1 : x1 ≤ x3
      · have hf := pm_it hf c1
        obtain ⟨k2, hf⟩ := pm_if hf
        obtain ⟨y3, e4, hf⟩ := pm_lt hf
        have hf := Option.some.inj hf
        subst hf
        have hi := Option.some.inj (show some _ = some r from hi)
        subst hi
        exact (pr_sI K0 Hx0)
      · have hf := pm_ie hf c1
        by_cases c5 : x1 ≤ x2
        · have hf := pm_it hf c5
          obtain ⟨k6, hf⟩ := pm_if hf
          obtain ⟨y7, e8, hf⟩ := pm_lt hf
          have hf := Option.some.inj hf
          subst hf
          have hi := Option.some.inj (show some _ = some r from hi)
          subst hi
          exact (pr_sI K0 Hx0)
        · have hf := pm_ie hf c5
          obtain ⟨k9, hf⟩ := pm_if hf
          by_cases c10 : (pm_I h x0 0) = 1
          · have hf := pm_it hf c10
            obtain ⟨v11, e12, hf⟩ := pm_bd hf
            obtain ⟨k13, hf⟩ := pm_if hf
            by_cases c14 : (pm_I h v11 7) = 0
            · have hf := pm_it hf c14
              obtain ⟨v15, e16, hf⟩ := pm_bd hf
              have K17 := rgX5_stepOnStack K0 Hx0 e16
              cases hf
              exact ih.2.2.2.1 x0 x1 x2 x3 v15 K17 Hx0 hi
            · have hf := pm_ie hf c14
              obtain ⟨y18, e19, hf⟩ := pm_lt hf
              obtain ⟨v20, e21, hf⟩ := pm_bd hf
              obtain ⟨v22, e23, hf⟩ := pm_bd hf
              obtain ⟨y24, e25, hf⟩ := pm_lt hf
              obtain ⟨y26, e27, hf⟩ := pm_lt hf
              obtain ⟨y28, e29, hf⟩ := pm_lt hf
              by_cases c30 : y24 ≤ y28
              · have hf := pm_it hf c30
                by_cases c31 : y28 = y24
                · have hf := pm_it hf c31
                  obtain ⟨v32, e33, hf⟩ := pm_bd hf
                  have K34 := rgX5_stepOnRegisters (pr_sI K0 Hx0) Hx0 e33
                  cases hf
                  exact ih.2.2.1 x0 x1 x2 x3 y28 v32 K34 Hx0 hi
                · have hf := pm_ie hf c31
                  cases hf
                  exact ih.2.2.1 x0 x1 x2 x3 y28 (pm_setI h x0 14 0) (pr_sI K0 Hx0) Hx0 hi
              · have hf := pm_ie hf c30
                obtain ⟨y35, e36, hf⟩ := pm_lt hf
                by_cases c37 : y28 = y24
                · have hf := pm_it hf c37
                  obtain ⟨v38, e39, hf⟩ := pm_bd hf
                  have K40 := rgX5_stepOnRegisters (pr_sI K0 Hx0) Hx0 e39
                  cases hf
                  exact ih.2.2.1 x0 x1 x2 x3 y28 v38 K40 Hx0 hi
                · have hf := pm_ie hf c37
                  cases hf
                  exact ih.2.2.1 x0 x1 x2 x3 y28 (pm_setI h x0 14 y35) (pr_sI K0 Hx0) Hx0 hi
          · have hf := pm_ie hf c10
            obtain ⟨y41, e42, hf⟩ := pm_lt hf
            have hf := Option.some.inj hf
            subst hf
            have hi := Option.some.inj (show some _ = some r from hi)
            subst hi
            exact (pr_sI K0 Hx0)
    refine ⟨fun x0 x1 x2 x3 x6 h K0 Hx0 hf => ?_, ?_⟩
    · obtain ⟨y, hf, hi⟩ := pm_iter_s hf
      have hf : tX5_advance_120 x0 x1 x2 x3 x6 h = some y := hf
      unfold tX5_advance_120 at hf
      obtain ⟨y49, e50, hf⟩ := pm_lt hf
      obtain ⟨k51, hf⟩ := pm_if hf
      obtain ⟨v52, e53, hf⟩ := pm_bd hf
      have K54 := rgX5_settle K0 Hx0 e53
      cases hf
      exact ih.2.2.2.2 x0 x1 y49 x3 v52 K54 Hx0 hi
    refine ⟨fun x0 x1 x2 x3 h K0 Hx0 hf => ?_, ?_⟩
    · obtain ⟨y, hf, hi⟩ := pm_iter_s hf
      have hf : tX5_advance_36 x0 x1 x2 x3 h = some y := hf
      unfold tX5_advance_36 at hf
      obtain ⟨y43, e44, hf⟩ := pm_lt hf
      obtain ⟨k45, hf⟩ := pm_if hf
      obtain ⟨v46, e47, hf⟩ := pm_bd hf
      have K48 := rgX5_settle K0 Hx0 e47
      cases hf
      exact ih.2.2.2.2 x0 x1 y43 x3 v46 K48 Hx0 hi
    refine fun x0 x1 x2 x3 h K0 Hx0 hf => ?_
    obtain ⟨y, hf, hi⟩ := pm_iter_s hf
    have hf : tX5_advance_129 x0 x1 x2 x3 h = some y := hf
    unfold tX5_advance_129 at hf
    obtain ⟨y55, e56, hf⟩ := pm_lt hf
    cases hf
    exact ih.2.1 x0 x1 x2 y55 h K0 Hx0 hi
set_option maxHeartbeats 4000000 in
set_option maxRecDepth 100000 in
theorem rgX5_advance {A : Nat → Prop} {h0 h : pm_H} (K0 : pr_F A h0 h) {a0 : Nat} {p1 : Int32} (Ha0 : A a0) {r : (Int32 × pm_H)} (hf : fX5_advance h a0 p1 = some r) : pr_F A h0 r.2 := by
  unfold fX5_advance at hf
  obtain ⟨n, hn⟩ := pm_lim_iter hf
  exact (rlX5_advance n).1 a0 p1 h K0 Ha0 hn
set_option maxHeartbeats 4000000 in
set_option maxRecDepth 100000 in
theorem rgX12_run_b20 {A : Nat → Prop} {h0 h : pm_H} (K0 : pr_F A h0 h) {s0 : Int32}  {r : (Int32 × pm_H)} (hf : fX12_run_b20 h s0 = some r) : pr_F A h0 r.2 := by
  unfold fX12_run_b20 at hf
  have hf := Option.some.inj hf
  subst hf
  exact K0
set_option maxHeartbeats 4000000 in
set_option maxRecDepth 100000 in
theorem rgX12_run_b0 {A : Nat → Prop} {h0 h : pm_H} (K0 : pr_F A h0 h) {x0 : Nat} {x1 : Int32} (Hx0 : A x0) {r : (Int32 × pm_H)} (hf : fX12_run_b0 h x0 x1 = some r) : pr_F A h0 r.2 := by
  unfold fX12_run_b0 at hf
  by_cases c1 : x1 < 0
  · have hf := pm_it hf c1
    have hf := Option.some.inj hf
    subst hf
    exact K0
  · have hf := pm_ie hf c1
    by_cases c2 : x1 ≤ 100000
    · have hf := pm_it hf c2
      obtain ⟨k3, hf⟩ := pm_if hf
      obtain ⟨v4, e5, hf⟩ := pm_bd hf
      obtain ⟨k6, hf⟩ := pm_if hf
      obtain ⟨v7, e8, hf⟩ := pm_bd hf
      have K9 := rgX5_advance K0 (pr_c K0 Hx0 e5) e8
      exact rgX12_run_b20 K9  hf
    · have hf := pm_ie hf c2
      have hf := Option.some.inj hf
      subst hf
      exact K0
set_option maxHeartbeats 4000000 in
set_option maxRecDepth 100000 in
theorem rgX12_run {A : Nat → Prop} {h0 h : pm_H} (K0 : pr_F A h0 h) {a0 : Nat} {p1 : Int32} (Ha0 : A a0) {r : (Int32 × pm_H)} (hf : fX12_run h a0 p1 = some r) : pr_F A h0 r.2 := by
  unfold fX12_run at hf
  exact rgX12_run_b0 K0 Ha0 hf
set_option maxHeartbeats 4000000 in
set_option maxRecDepth 100000 in
theorem rlX16_init {A : Nat → Prop} {h0 : pm_H} {r : pm_H} : ∀ n : Nat, (∀ (x0 : Nat) (h : pm_H), pr_F A h0 h → A x0 → pm_iter sX16_init n (.inl (x0, h)) = some r → pr_F A h0 r) ∧ (∀ (x0 : Nat) (s0 : Nat) (s1 : Nat) (h : pm_H), pr_F A h0 h → A x0 → A s0 → A s1 → pm_iter sX16_init n (.inr (.inl (x0, s0, s1, h))) = some r → pr_F A h0 r) ∧ (∀ (x0 : Nat) (s0 : Nat) (s1 : Nat) (h : pm_H), pr_F A h0 h → A x0 → A s0 → A s1 → pm_iter sX16_init n (.inr (.inr (.inl (x0, s0, s1, h)))) = some r → pr_F A h0 r) ∧ (∀ (x0 : Nat) (s0 : Nat) (s1 : Nat) (h : pm_H), pr_F A h0 h → A x0 → A s0 → A s1 → pm_iter sX16_init n (.inr (.inr (.inr (.inl (x0, s0, s1, h))))) = some r → pr_F A h0 r) ∧ (∀ (x0 : Nat) (s0 : Nat) (s1 : Nat) (h : pm_H), pr_F A h0 h → A x0 → A s0 → A s1 → pm_iter sX16_init n (.inr (.inr (.inr (.inr (.inl (x0, s0, s1, h)))))) = some r → pr_F A h0 r) ∧ (∀ (x0 : Nat) (s0 : Nat) (s1 : Nat) (h : pm_H), pr_F A h0 h → A x0 → A s0 → A s1 → pm_iter sX16_init n (.inr (.inr (.inr (.inr (.inr (.inl (x0, s0, s1, h))))))) = some r → pr_F A h0 r) ∧ (∀ (x0 : Nat) (s0 : Nat) (s1 : Nat) (h : pm_H), pr_F A h0 h → A x0 → A s0 → A s1 → pm_iter sX16_init n (.inr (.inr (.inr (.inr (.inr (.inr (.inl (x0, s0, s1, h)))))))) = some r → pr_F A h0 r) ∧ (∀ (x0 : Nat) (s0 : Nat) (s1 : Nat) (h : pm_H), pr_F A h0 h → A x0 → A s0 → A s1 → pm_iter sX16_init n (.inr (.inr (.inr (.inr (.inr (.inr (.inr (.inl (x0, s0, s1, h))))))))) = some r → pr_F A h0 r) ∧ (∀ (x0 : Nat) (s0 : Nat) (s1 : Nat) (h : pm_H), pr_F A h0 h → A x0 → A s0 → A s1 → pm_iter sX16_init n (.inr (.inr (.inr (.inr (.inr (.inr (.inr (.inr (.inl (x0, s0, s1, h)))))))))) = some r → pr_F A h0 r) ∧ (∀ (x0 : Nat) (s0 : Nat) (s1 : Nat) (h : pm_H), pr_F A h0 h → A x0 → A s0 → A s1 → pm_iter sX16_init n (.inr (.inr (.inr (.inr (.inr (.inr (.inr (.inr (.inr (.inl (x0, s0, s1, h))))))))))) = some r → pr_F A h0 r) ∧ (∀ (x0 : Nat) (s0 : Nat) (s1 : Nat) (h : pm_H), pr_F A h0 h → A x0 → A s0 → A s1 → pm_iter sX16_init n (.inr (.inr (.inr (.inr (.inr (.inr (.inr (.inr (.inr (.inr (.inl (x0, s0, s1, h)))))))))))) = some r → pr_F A h0 r) ∧ (∀ (x0 : Nat) (s0 : Nat) (s1 : Nat) (h : pm_H), pr_F A h0 h → A x0 → A s0 → A s1 → pm_iter sX16_init n (.inr (.inr (.inr (.inr (.inr (.inr (.inr (.inr (.inr (.inr (.inr (.inl (x0, s0, s1, h))))))))))))) = some r → pr_F A h0 r) ∧ (∀ (x0 : Nat) (s0 : Nat) (s1 : Nat) (h : pm_H), pr_F A h0 h → A x0 → A s0 → A s1 → pm_iter sX16_init n (.inr (.inr (.inr (.inr (.inr (.inr (.inr (.inr (.inr (.inr (.inr (.inr (.inl (x0, s0, s1, h)))))))))))))) = some r → pr_F A h0 r) ∧ (∀ (x0 : Nat) (s0 : Nat) (s1 : Nat) (h : pm_H), pr_F A h0 h → A x0 → A s0 → A s1 → pm_iter sX16_init n (.inr (.inr (.inr (.inr (.inr (.inr (.inr (.inr (.inr (.inr (.inr (.inr (.inr (.inl (x0, s0, s1, h))))))))))))))) = some r → pr_F A h0 r) ∧ (∀ (x0 : Nat) (s0 : Nat) (s1 : Nat) (h : pm_H), pr_F A h0 h → A x0 → A s0 → A s1 → pm_iter sX16_init n (.inr (.inr (.inr (.inr (.inr (.inr (.inr (.inr (.inr (.inr (.inr (.inr (.inr (.inr (.inl (x0, s0, s1, h)))))))))))))))) = some r → pr_F A h0 r) ∧ (∀ (x0 : Nat) (s0 : Nat) (s1 : Nat) (h : pm_H), pr_F A h0 h → A x0 → A s0 → A s1 → pm_iter sX16_init n (.inr (.inr (.inr (.inr (.inr (.inr (.inr (.inr (.inr (.inr (.inr (.inr (.inr (.inr (.inr (.inl (x0, s0, s1, h))))))))))))))))) = some r → pr_F A h0 r) ∧ (∀ (x0 : Nat) (s0 : Nat) (s1 : Nat) (h : pm_H), pr_F A h0 h → A x0 → A s0 → A s1 → pm_iter sX16_init n (.inr (.inr (.inr (.inr (.inr (.inr (.inr (.inr (.inr (.inr (.inr (.inr (.inr (.inr (.inr (.inr (.inl (x0, s0, s1, h)))))))))))))))))) = some r → pr_F A h0 r) ∧ (∀ (x0 : Nat) (s0 : Nat) (s1 : Nat) (h : pm_H), pr_F A h0 h → A x0 → A s0 → A s1 → pm_iter sX16_init n (.inr (.inr (.inr (.inr (.inr (.inr (.inr (.inr (.inr (.inr (.inr (.inr (.inr (.inr (.inr (.inr (.inr (.inl (x0, s0, s1, h))))))))))))))))))) = some r → pr_F A h0 r) ∧ (∀ (x0 : Nat) (s0 : Nat) (s1 : Nat) (h : pm_H), pr_F A h0 h → A x0 → A s0 → A s1 → pm_iter sX16_init n (.inr (.inr (.inr (.inr (.inr (.inr (.inr (.inr (.inr (.inr (.inr (.inr (.inr (.inr (.inr (.inr (.inr (.inr (.inl (x0, s0, s1, h)))))))))))))))))))) = some r → pr_F A h0 r) ∧ (∀ (x0 : Nat) (s0 : Nat) (s1 : Nat) (h : pm_H), pr_F A h0 h → A x0 → A s0 → A s1 → pm_iter sX16_init n (.inr (.inr (.inr (.inr (.inr (.inr (.inr (.inr (.inr (.inr (.inr (.inr (.inr (.inr (.inr (.inr (.inr (.inr (.inr (.inl (x0, s0, s1, h))))))))))))))))))))) = some r → pr_F A h0 r) ∧ (∀ (x0 : Nat) (s0 : Nat) (s1 : Nat) (h : pm_H), pr_F A h0 h → A x0 → A s0 → A s1 → pm_iter sX16_init n (.inr (.inr (.inr (.inr (.inr (.inr (.inr (.inr (.inr (.inr (.inr (.inr (.inr (.inr (.inr (.inr (.inr (.inr (.inr (.inr (.inl (x0, s0, s1, h)))))))))))))))))))))) = some r → pr_F A h0 r) ∧ (∀ (x0 : Nat) (s0 : Nat) (s1 : Nat) (h : pm_H), pr_F A h0 h → A x0 → A s0 → A s1 → pm_iter sX16_init n (.inr (.inr (.inr (.inr (.inr (.inr (.inr (.inr (.inr (.inr (.inr (.inr (.inr (.inr (.inr (.inr (.inr (.inr (.inr (.inr (.inr (.inl (x0, s0, s1, h))))))))))))))))))))))) = some r → pr_F A h0 r) ∧ (∀ (x0 : Nat) (s0 : Nat) (s1 : Nat) (h : pm_H), pr_F A h0 h → A x0 → A s0 → A s1 → pm_iter sX16_init n (.inr (.inr (.inr (.inr (.inr (.inr (.inr (.inr (.inr (.inr (.inr (.inr (.inr (.inr (.inr (.inr (.inr (.inr (.inr (.inr (.inr (.inr (.inl (x0, s0, s1, h)))))))))))))))))))))))) = some r → pr_F A h0 r) ∧ (∀ (x0 : Nat) (s0 : Nat) (s1 : Nat) (h : pm_H), pr_F A h0 h → A x0 → A s0 → A s1 → pm_iter sX16_init n (.inr (.inr (.inr (.inr (.inr (.inr (.inr (.inr (.inr (.inr (.inr (.inr (.inr (.inr (.inr (.inr (.inr (.inr (.inr (.inr (.inr (.inr (.inr (.inl (x0, s0, s1, h))))))))))))))))))))))))) = some r → pr_F A h0 r) ∧ (∀ (x0 : Nat) (s0 : Nat) (s1 : Nat) (h : pm_H), pr_F A h0 h → A x0 → A s0 → A s1 → pm_iter sX16_init n (.inr (.inr (.inr (.inr (.inr (.inr (.inr (.inr (.inr (.inr (.inr (.inr (.inr (.inr (.inr (.inr (.inr (.inr (.inr (.inr (.inr (.inr (.inr (.inr (.inl (x0, s0, s1, h)))))))))))))))))))))))))) = some r → pr_F A h0 r) ∧ (∀ (x0 : Nat) (s0 : Nat) (s1 : Nat) (h : pm_H), pr_F A h0 h → A x0 → A s0 → A s1 → pm_iter sX16_init n (.inr (.inr (.inr (.inr (.inr (.inr (.inr (.inr (.inr (.inr (.inr (.inr (.inr (.inr (.inr (.inr (.inr (.inr (.inr (.inr (.inr (.inr (.inr (.inr (.inr (.inl (x0, s0, s1, h))))))))))))))))))))))))))) = some r → pr_F A h0 r) ∧ (∀ (x0 : Nat) (s0 : Nat) (s1 : Nat) (h : pm_H), pr_F A h0 h → A x0 → A s0 → A s1 → pm_iter sX16_init n (.inr (.inr (.inr (.inr (.inr (.inr (.inr (.inr (.inr (.inr (.inr (.inr (.inr (.inr (.inr (.inr (.inr (.inr (.inr (.inr (.inr (.inr (.inr (.inr (.inr (.inr (.inl (x0, s0, s1, h)))))))))))))))))))))))))))) = some r → pr_F A h0 r) ∧ (∀ (x0 : Nat) (s0 : Nat) (s1 : Nat) (h : pm_H), pr_F A h0 h → A x0 → A s0 → A s1 → pm_iter sX16_init n (.inr (.inr (.inr (.inr (.inr (.inr (.inr (.inr (.inr (.inr (.inr (.inr (.inr (.inr (.inr (.inr (.inr (.inr (.inr (.inr (.inr (.inr (.inr (.inr (.inr (.inr (.inr (.inl (x0, s0, s1, h))))))))))))))))))))))))))))) = some r → pr_F A h0 r) ∧ (∀ (x0 : Nat) (s0 : Nat) (s1 : Nat) (h : pm_H), pr_F A h0 h → A x0 → A s0 → A s1 → pm_iter sX16_init n (.inr (.inr (.inr (.inr (.inr (.inr (.inr (.inr (.inr (.inr (.inr (.inr (.inr (.inr (.inr (.inr (.inr (.inr (.inr (.inr (.inr (.inr (.inr (.inr (.inr (.inr (.inr (.inr (.inl (x0, s0, s1, h)))))))))))))))))))))))))))))) = some r → pr_F A h0 r) ∧ (∀ (x0 : Nat) (s0 : Nat) (s1 : Nat) (h : pm_H), pr_F A h0 h → A x0 → A s0 → A s1 → pm_iter sX16_init n (.inr (.inr (.inr (.inr (.inr (.inr (.inr (.inr (.inr (.inr (.inr (.inr (.inr (.inr (.inr (.inr (.inr (.inr (.inr (.inr (.inr (.inr (.inr (.inr (.inr (.inr (.inr (.inr (.inr (.inl (x0, s0, s1, h))))))))))))))))))))))))))))))) = some r → pr_F A h0 r) ∧ (∀ (x0 : Nat) (s0 : Nat) (s1 : Nat) (h : pm_H), pr_F A h0 h → A x0 → A s0 → A s1 → pm_iter sX16_init n (.inr (.inr (.inr (.inr (.inr (.inr (.inr (.inr (.inr (.inr (.inr (.inr (.inr (.inr (.inr (.inr (.inr (.inr (.inr (.inr (.inr (.inr (.inr (.inr (.inr (.inr (.inr (.inr (.inr (.inr (.inl (x0, s0, s1, h)))))))))))))))))))))))))))))))) = some r → pr_F A h0 r) ∧ (∀ (x0 : Nat) (s0 : Nat) (s1 : Nat) (h : pm_H), pr_F A h0 h → A x0 → A s0 → A s1 → pm_iter sX16_init n (.inr (.inr (.inr (.inr (.inr (.inr (.inr (.inr (.inr (.inr (.inr (.inr (.inr (.inr (.inr (.inr (.inr (.inr (.inr (.inr (.inr (.inr (.inr (.inr (.inr (.inr (.inr (.inr (.inr (.inr (.inr (.inl (x0, s0, s1, h))))))))))))))))))))))))))))))))) = some r → pr_F A h0 r) ∧ (∀ (x0 : Nat) (s0 : Nat) (s1 : Nat) (h : pm_H), pr_F A h0 h → A x0 → A s0 → A s1 → pm_iter sX16_init n (.inr (.inr (.inr (.inr (.inr (.inr (.inr (.inr (.inr (.inr (.inr (.inr (.inr (.inr (.inr (.inr (.inr (.inr (.inr (.inr (.inr (.inr (.inr (.inr (.inr (.inr (.inr (.inr (.inr (.inr (.inr (.inr (.inl (x0, s0, s1, h)))))))))))))))))))))))))))))))))) = some r → pr_F A h0 r) ∧ (∀ (x0 : Nat) (s0 : Nat) (s1 : Nat) (h : pm_H), pr_F A h0 h → A x0 → A s0 → A s1 → pm_iter sX16_init n (.inr (.inr (.inr (.inr (.inr (.inr (.inr (.inr (.inr (.inr (.inr (.inr (.inr (.inr (.inr (.inr (.inr (.inr (.inr (.inr (.inr (.inr (.inr (.inr (.inr (.inr (.inr (.inr (.inr (.inr (.inr (.inr (.inr (.inl (x0, s0, s1, h))))))))))))))))))))))))))))))))))) = some r → pr_F A h0 r) ∧ (∀ (x0 : Nat) (s0 : Nat) (s1 : Nat) (h : pm_H), pr_F A h0 h → A x0 → A s0 → A s1 → pm_iter sX16_init n (.inr (.inr (.inr (.inr (.inr (.inr (.inr (.inr (.inr (.inr (.inr (.inr (.inr (.inr (.inr (.inr (.inr (.inr (.inr (.inr (.inr (.inr (.inr (.inr (.inr (.inr (.inr (.inr (.inr (.inr (.inr (.inr (.inr (.inr (.inl (x0, s0, s1, h)))))))))))))))))))))))))))))))))))) = some r → pr_F A h0 r) ∧ (∀ (x0 : Nat) (s0 : Nat) (s1 : Nat) (h : pm_H), pr_F A h0 h → A x0 → A s0 → A s1 → pm_iter sX16_init n (.inr (.inr (.inr (.inr (.inr (.inr (.inr (.inr (.inr (.inr (.inr (.inr (.inr (.inr (.inr (.inr (.inr (.inr (.inr (.inr (.inr (.inr (.inr (.inr (.inr (.inr (.inr (.inr (.inr (.inr (.inr (.inr (.inr (.inr (.inr (.inl (x0, s0, s1, h))))))))))))))))))))))))))))))))))))) = some r → pr_F A h0 r) ∧ (∀ (x0 : Nat) (s0 : Nat) (s1 : Nat) (h : pm_H), pr_F A h0 h → A x0 → A s0 → A s1 → pm_iter sX16_init n (.inr (.inr (.inr (.inr (.inr (.inr (.inr (.inr (.inr (.inr (.inr (.inr (.inr (.inr (.inr (.inr (.inr (.inr (.inr (.inr (.inr (.inr (.inr (.inr (.inr (.inr (.inr (.inr (.inr (.inr (.inr (.inr (.inr (.inr (.inr (.inr (.inl (x0, s0, s1, h)))))))))))))))))))))))))))))))))))))) = some r → pr_F A h0 r) ∧ (∀ (x0 : Nat) (s0 : Nat) (s1 : Nat) (h : pm_H), pr_F A h0 h → A x0 → A s0 → A s1 → pm_iter sX16_init n (.inr (.inr (.inr (.inr (.inr (.inr (.inr (.inr (.inr (.inr (.inr (.inr (.inr (.inr (.inr (.inr (.inr (.inr (.inr (.inr (.inr (.inr (.inr (.inr (.inr (.inr (.inr (.inr (.inr (.inr (.inr (.inr (.inr (.inr (.inr (.inr (.inr (.inl (x0, s0, s1, h))))))))))))))))))))))))))))))))))))))) = some r → pr_F A h0 r) ∧ (∀ (x0 : Nat) (s0 : Nat) (s1 : Nat) (h : pm_H), pr_F A h0 h → A x0 → A s0 → A s1 → pm_iter sX16_init n (.inr (.inr (.inr (.inr (.inr (.inr (.inr (.inr (.inr (.inr (.inr (.inr (.inr (.inr (.inr (.inr (.inr (.inr (.inr (.inr (.inr (.inr (.inr (.inr (.inr (.inr (.inr (.inr (.inr (.inr (.inr (.inr (.inr (.inr (.inr (.inr (.inr (.inr (.inl (x0, s0, s1, h)))))))))))))))))))))))))))))))))))))))) = some r → pr_F A h0 r) ∧ (∀ (x0 : Nat) (s0 : Nat) (s1 : Nat) (h : pm_H), pr_F A h0 h → A x0 → A s0 → A s1 → pm_iter sX16_init n (.inr (.inr (.inr (.inr (.inr (.inr (.inr (.inr (.inr (.inr (.inr (.inr (.inr (.inr (.inr (.inr (.inr (.inr (.inr (.inr (.inr (.inr (.inr (.inr (.inr (.inr (.inr (.inr (.inr (.inr (.inr (.inr (.inr (.inr (.inr (.inr (.inr (.inr (.inr (.inl (x0, s0, s1, h))))))))))))))))))))))))))))))))))))))))) = some r → pr_F A h0 r) ∧ (∀ (x0 : Nat) (s0 : Nat) (s1 : Nat) (h : pm_H), pr_F A h0 h → A x0 → A s0 → A s1 → pm_iter sX16_init n (.inr (.inr (.inr (.inr (.inr (.inr (.inr (.inr (.inr (.inr (.inr (.inr (.inr (.inr (.inr (.inr (.inr (.inr (.inr (.inr (.inr (.inr (.inr (.inr (.inr (.inr (.inr (.inr (.inr (.inr (.inr (.inr (.inr (.inr (.inr (.inr (.inr (.inr (.inr (.inr (.inl (x0, s0, s1, h)))))))))))))))))))))))))))))))))))))))))) = some r → pr_F A h0 r) ∧ (∀ (x0 : Nat) (s0 : Nat) (s1 : Nat) (h : pm_H), pr_F A h0 h → A x0 → A s0 → A s1 → pm_iter sX16_init n (.inr (.inr (.inr (.inr (.inr (.inr (.inr (.inr (.inr (.inr (.inr (.inr (.inr (.inr (.inr (.inr (.inr (.inr (.inr (.inr (.inr (.inr (.inr (.inr (.inr (.inr (.inr (.inr (.inr (.inr (.inr (.inr (.inr (.inr (.inr (.inr (.inr (.inr (.inr (.inr (.inr (.inl (x0, s0, s1, h))))))))))))))))))))))))))))))))))))))))))) = some r → pr_F A h0 r) ∧ (∀ (x0 : Nat) (s0 : Nat) (s1 : Nat) (h : pm_H), pr_F A h0 h → A x0 → A s0 → A s1 → pm_iter sX16_init n (.inr (.inr (.inr (.inr (.inr (.inr (.inr (.inr (.inr (.inr (.inr (.inr (.inr (.inr (.inr (.inr (.inr (.inr (.inr (.inr (.inr (.inr (.inr (.inr (.inr (.inr (.inr (.inr (.inr (.inr (.inr (.inr (.inr (.inr (.inr (.inr (.inr (.inr (.inr (.inr (.inr (.inr (.inl (x0, s0, s1, h)))))))))))))))))))))))))))))))))))))))))))) = some r → pr_F A h0 r) ∧ (∀ (x0 : Nat) (s0 : Nat) (s1 : Nat) (h : pm_H), pr_F A h0 h → A x0 → A s0 → A s1 → pm_iter sX16_init n (.inr (.inr (.inr (.inr (.inr (.inr (.inr (.inr (.inr (.inr (.inr (.inr (.inr (.inr (.inr (.inr (.inr (.inr (.inr (.inr (.inr (.inr (.inr (.inr (.inr (.inr (.inr (.inr (.inr (.inr (.inr (.inr (.inr (.inr (.inr (.inr (.inr (.inr (.inr (.inr (.inr (.inr (.inr (.inl (x0, s0, s1, h))))))))))))))))))))))))))))))))))))))))))))) = some r → pr_F A h0 r) ∧ (∀ (x0 : Nat) (s0 : Nat) (s1 : Nat) (h : pm_H), pr_F A h0 h → A x0 → A s0 → A s1 → pm_iter sX16_init n (.inr (.inr (.inr (.inr (.inr (.inr (.inr (.inr (.inr (.inr (.inr (.inr (.inr (.inr (.inr (.inr (.inr (.inr (.inr (.inr (.inr (.inr (.inr (.inr (.inr (.inr (.inr (.inr (.inr (.inr (.inr (.inr (.inr (.inr (.inr (.inr (.inr (.inr (.inr (.inr (.inr (.inr (.inr (.inr (.inl (x0, s0, s1, h)))))))))))))))))))))))))))))))))))))))))))))) = some r → pr_F A h0 r) ∧ (∀ (x0 : Nat) (s0 : Nat) (s1 : Nat) (h : pm_H), pr_F A h0 h → A x0 → A s0 → A s1 → pm_iter sX16_init n (.inr (.inr (.inr (.inr (.inr (.inr (.inr (.inr (.inr (.inr (.inr (.inr (.inr (.inr (.inr (.inr (.inr (.inr (.inr (.inr (.inr (.inr (.inr (.inr (.inr (.inr (.inr (.inr (.inr (.inr (.inr (.inr (.inr (.inr (.inr (.inr (.inr (.inr (.inr (.inr (.inr (.inr (.inr (.inr (.inr (.inl (x0, s0, s1, h))))))))))))))))))))))))))))))))))))))))))))))) = some r → pr_F A h0 r) ∧ (∀ (x0 : Nat) (s0 : Nat) (s1 : Nat) (h : pm_H), pr_F A h0 h → A x0 → A s0 → A s1 → pm_iter sX16_init n (.inr (.inr (.inr (.inr (.inr (.inr (.inr (.inr (.inr (.inr (.inr (.inr (.inr (.inr (.inr (.inr (.inr (.inr (.inr (.inr (.inr (.inr (.inr (.inr (.inr (.inr (.inr (.inr (.inr (.inr (.inr (.inr (.inr (.inr (.inr (.inr (.inr (.inr (.inr (.inr (.inr (.inr (.inr (.inr (.inr (.inr (.inl (x0, s0, s1, h)))))))))))))))))))))))))))))))))))))))))))))))) = some r → pr_F A h0 r) ∧ (∀ (x0 : Nat) (s0 : Nat) (s1 : Nat) (h : pm_H), pr_F A h0 h → A x0 → A s0 → A s1 → pm_iter sX16_init n (.inr (.inr (.inr (.inr (.inr (.inr (.inr (.inr (.inr (.inr (.inr (.inr (.inr (.inr (.inr (.inr (.inr (.inr (.inr (.inr (.inr (.inr (.inr (.inr (.inr (.inr (.inr (.inr (.inr (.inr (.inr (.inr (.inr (.inr (.inr (.inr (.inr (.inr (.inr (.inr (.inr (.inr (.inr (.inr (.inr (.inr (.inr (.inl (x0, s0, s1, h))))))))))))))))))))))))))))))))))))))))))))))))) = some r → pr_F A h0 r) ∧ (∀ (x0 : Nat) (s0 : Nat) (s1 : Nat) (h : pm_H), pr_F A h0 h → A x0 → A s0 → A s1 → pm_iter sX16_init n (.inr (.inr (.inr (.inr (.inr (.inr (.inr (.inr (.inr (.inr (.inr (.inr (.inr (.inr (.inr (.inr (.inr (.inr (.inr (.inr (.inr (.inr (.inr (.inr (.inr (.inr (.inr (.inr (.inr (.inr (.inr (.inr (.inr (.inr (.inr (.inr (.inr (.inr (.inr (.inr (.inr (.inr (.inr (.inr (.inr (.inr (.inr (.inr (.inl (x0, s0, s1, h)))))))))))))))))))))))))))))))))))))))))))))))))) = some r → pr_F A h0 r) ∧ (∀ (x0 : Nat) (s0 : Nat) (s1 : Nat) (h : pm_H), pr_F A h0 h → A x0 → A s0 → A s1 → pm_iter sX16_init n (.inr (.inr (.inr (.inr (.inr (.inr (.inr (.inr (.inr (.inr (.inr (.inr (.inr (.inr (.inr (.inr (.inr (.inr (.inr (.inr (.inr (.inr (.inr (.inr (.inr (.inr (.inr (.inr (.inr (.inr (.inr (.inr (.inr (.inr (.inr (.inr (.inr (.inr (.inr (.inr (.inr (.inr (.inr (.inr (.inr (.inr (.inr (.inr (.inr (.inl (x0, s0, s1, h))))))))))))))))))))))))))))))))))))))))))))))))))) = some r → pr_F A h0 r) ∧ (∀ (x0 : Nat) (s0 : Nat) (s1 : Nat) (h : pm_H), pr_F A h0 h → A x0 → A s0 → A s1 → pm_iter sX16_init n (.inr (.inr (.inr (.inr (.inr (.inr (.inr (.inr (.inr (.inr (.inr (.inr (.inr (.inr (.inr (.inr (.inr (.inr (.inr (.inr (.inr (.inr (.inr (.inr (.inr (.inr (.inr (.inr (.inr (.inr (.inr (.inr (.inr (.inr (.inr (.inr (.inr (.inr (.inr (.inr (.inr (.inr (.inr (.inr (.inr (.inr (.inr (.inr (.inr (.inr (.inl (x0, s0, s1, h)))))))))))))))))))))))))))))))))))))))))))))))))))) = some r → pr_F A h0 r) ∧ (∀ (x0 : Nat) (s0 : Nat) (s1 : Nat) (h : pm_H), pr_F A h0 h → A x0 → A s0 → A s1 → pm_iter sX16_init n (.inr (.inr (.inr (.inr (.inr (.inr (.inr (.inr (.inr (.inr (.inr (.inr (.inr (.inr (.inr (.inr (.inr (.inr (.inr (.inr (.inr (.inr (.inr (.inr (.inr (.inr (.inr (.inr (.inr (.inr (.inr (.inr (.inr (.inr (.inr (.inr (.inr (.inr (.inr (.inr (.inr (.inr (.inr (.inr (.inr (.inr (.inr (.inr (.inr (.inr (.inr (.inl (x0, s0, s1, h))))))))))))))))))))))))))))))))))))))))))))))))))))) = some r → pr_F A h0 r) ∧ (∀ (x0 : Nat) (s0 : Nat) (s1 : Nat) (h : pm_H), pr_F A h0 h → A x0 → A s0 → A s1 → pm_iter sX16_init n (.inr (.inr (.inr (.inr (.inr (.inr (.inr (.inr (.inr (.inr (.inr (.inr (.inr (.inr (.inr (.inr (.inr (.inr (.inr (.inr (.inr (.inr (.inr (.inr (.inr (.inr (.inr (.inr (.inr (.inr (.inr (.inr (.inr (.inr (.inr (.inr (.inr (.inr (.inr (.inr (.inr (.inr (.inr (.inr (.inr (.inr (.inr (.inr (.inr (.inr (.inr (.inr (.inl (x0, s0, s1, h)))))))))))))))))))))))))))))))))))))))))))))))))))))) = some r → pr_F A h0 r) ∧ (∀ (x0 : Nat) (s0 : Nat) (s1 : Nat) (h : pm_H), pr_F A h0 h → A x0 → A s0 → A s1 → pm_iter sX16_init n (.inr (.inr (.inr (.inr (.inr (.inr (.inr (.inr (.inr (.inr (.inr (.inr (.inr (.inr (.inr (.inr (.inr (.inr (.inr (.inr (.inr (.inr (.inr (.inr (.inr (.inr (.inr (.inr (.inr (.inr (.inr (.inr (.inr (.inr (.inr (.inr (.inr (.inr (.inr (.inr (.inr (.inr (.inr (.inr (.inr (.inr (.inr (.inr (.inr (.inr (.inr (.inr (.inr (.inl (x0, s0, s1, h))))))))))))))))))))))))))))))))))))))))))))))))))))))) = some r → pr_F A h0 r) ∧ (∀ (x0 : Nat) (s0 : Nat) (s1 : Nat) (h : pm_H), pr_F A h0 h → A x0 → A s0 → A s1 → pm_iter sX16_init n (.inr (.inr (.inr (.inr (.inr (.inr (.inr (.inr (.inr (.inr (.inr (.inr (.inr (.inr (.inr (.inr (.inr (.inr (.inr (.inr (.inr (.inr (.inr (.inr (.inr (.inr (.inr (.inr (.inr (.inr (.inr (.inr (.inr (.inr (.inr (.inr (.inr (.inr (.inr (.inr (.inr (.inr (.inr (.inr (.inr (.inr (.inr (.inr (.inr (.inr (.inr (.inr (.inr (.inr (.inl (x0, s0, s1, h)))))))))))))))))))))))))))))))))))))))))))))))))))))))) = some r → pr_F A h0 r) ∧ (∀ (x0 : Nat) (s0 : Nat) (s1 : Nat) (h : pm_H), pr_F A h0 h → A x0 → A s0 → A s1 → pm_iter sX16_init n (.inr (.inr (.inr (.inr (.inr (.inr (.inr (.inr (.inr (.inr (.inr (.inr (.inr (.inr (.inr (.inr (.inr (.inr (.inr (.inr (.inr (.inr (.inr (.inr (.inr (.inr (.inr (.inr (.inr (.inr (.inr (.inr (.inr (.inr (.inr (.inr (.inr (.inr (.inr (.inr (.inr (.inr (.inr (.inr (.inr (.inr (.inr (.inr (.inr (.inr (.inr (.inr (.inr (.inr (.inr (.inl (x0, s0, s1, h))))))))))))))))))))))))))))))))))))))))))))))))))))))))) = some r → pr_F A h0 r) ∧ (∀ (x0 : Nat) (s0 : Nat) (s1 : Nat) (h : pm_H), pr_F A h0 h → A x0 → A s0 → A s1 → pm_iter sX16_init n (.inr (.inr (.inr (.inr (.inr (.inr (.inr (.inr (.inr (.inr (.inr (.inr (.inr (.inr (.inr (.inr (.inr (.inr (.inr (.inr (.inr (.inr (.inr (.inr (.inr (.inr (.inr (.inr (.inr (.inr (.inr (.inr (.inr (.inr (.inr (.inr (.inr (.inr (.inr (.inr (.inr (.inr (.inr (.inr (.inr (.inr (.inr (.inr (.inr (.inr (.inr (.inr (.inr (.inr (.inr (.inr (.inl (x0, s0, s1, h)))))))))))))))))))))))))))))))))))))))))))))))))))))))))) = some r → pr_F A h0 r) ∧ (∀ (x0 : Nat) (x1 : Int32) (h : pm_H), pr_F A h0 h → A x0 → pm_iter sX16_init n (.inr (.inr (.inr (.inr (.inr (.inr (.inr (.inr (.inr (.inr (.inr (.inr (.inr (.inr (.inr (.inr (.inr (.inr (.inr (.inr (.inr (.inr (.inr (.inr (.inr (.inr (.inr (.inr (.inr (.inr (.inr (.inr (.inr (.inr (.inr (.inr (.inr (.inr (.inr (.inr (.inr (.inr (.inr (.inr (.inr (.inr (.inr (.inr (.inr (.inr (.inr (.inr (.inr (.inr (.inr (.inr (.inr (x0, x1, h)))))))))))))))))))))))))))))))))))))))))))))))))))))))))) = some r → pr_F A h0 r) := by
  intro n
  induction n with
  | zero => exact ⟨fun _ _ _ _ hf => (by cases hf), fun _ _ _ _ _ _ _ _ hf => (by cases hf), fun _ _ _ _ _ _ _ _ hf => (by cases hf), fun _ _ _ _ _ _ _ _ hf => (by cases hf), fun _ _ _ _ _ _ _ _ hf => (by cases hf), fun _ _ _ _ _ _ _ _ hf => (by cases hf), fun _ _ _ _ _ _ _ _ hf => (by cases hf), fun _ _ _ _ _ _ _ _ hf => (by cases hf), fun _ _ _ _ _ _ _ _ hf => (by cases hf), fun _ _ _ _ _ _ _ _ hf => (by cases hf), fun _ _ _ _ _ _ _ _ hf => (by cases hf), fun _ _ _ _ _ _ _ _ hf => (by cases hf), fun _ _ _ _ _ _ _ _ hf => (by cases hf), fun _ _ _ _ _ _ _ _ hf => (by cases hf), fun _ _ _ _ _ _ _ _ hf => (by cases hf), fun _ _ _ _ _ _ _ _ hf => (by cases hf), fun _ _ _ _ _ _ _ _ hf => (by cases hf), fun _ _ _ _ _ _ _ _ hf => (by cases hf), fun _ _ _ _ _ _ _ _ hf => (by cases hf), fun _ _ _ _ _ _ _ _ hf => (by cases hf), fun _ _ _ _ _ _ _ _ hf => (by cases hf), fun _ _ _ _ _ _ _ _ hf => (by cases hf), fun _ _ _ _ _ _ _ _ hf => (by cases hf), fun _ _ _ _ _ _ _ _ hf => (by cases hf), fun _ _ _ _ _ _ _ _ hf => (by cases hf), fun _ _ _ _ _ _ _ _ hf => (by cases hf), fun _ _ _ _ _ _ _ _ hf => (by cases hf), fun _ _ _ _ _ _ _ _ hf => (by cases hf), fun _ _ _ _ _ _ _ _ hf => (by cases hf), fun _ _ _ _ _ _ _ _ hf => (by cases hf), fun _ _ _ _ _ _ _ _ hf => (by cases hf), fun _ _ _ _ _ _ _ _ hf => (by cases hf), fun _ _ _ _ _ _ _ _ hf => (by cases hf), fun _ _ _ _ _ _ _ _ hf => (by cases hf), fun _ _ _ _ _ _ _ _ hf => (by cases hf), fun _ _ _ _ _ _ _ _ hf => (by cases hf), fun _ _ _ _ _ _ _ _ hf => (by cases hf), fun _ _ _ _ _ _ _ _ hf => (by cases hf), fun _ _ _ _ _ _ _ _ hf => (by cases hf), fun _ _ _ _ _ _ _ _ hf => (by cases hf), fun _ _ _ _ _ _ _ _ hf => (by cases hf), fun _ _ _ _ _ _ _ _ hf => (by cases hf), fun _ _ _ _ _ _ _ _ hf => (by cases hf), fun _ _ _ _ _ _ _ _ hf => (by cases hf), fun _ _ _ _ _ _ _ _ hf => (by cases hf), fun _ _ _ _ _ _ _ _ hf => (by cases hf), fun _ _ _ _ _ _ _ _ hf => (by cases hf), fun _ _ _ _ _ _ _ _ hf => (by cases hf), fun _ _ _ _ _ _ _ _ hf => (by cases hf), fun _ _ _ _ _ _ _ _ hf => (by cases hf), fun _ _ _ _ _ _ _ _ hf => (by cases hf), fun _ _ _ _ _ _ _ _ hf => (by cases hf), fun _ _ _ _ _ _ _ _ hf => (by cases hf), fun _ _ _ _ _ _ _ _ hf => (by cases hf), fun _ _ _ _ _ _ _ _ hf => (by cases hf), fun _ _ _ _ _ _ _ _ hf => (by cases hf), fun _ _ _ _ _ _ _ _ hf => (by cases hf), fun _ _ _ _ _ hf => (by cases hf)⟩
  | succ n ih =>
    refine ⟨fun x0 h K0 Hx0 hf => ?_, ?_⟩
    · obtain ⟨y, hf, hi⟩ := pm_iter_s hf
      have hf : tX16_init_0 x0 h = some y := hf
      unfold tX16_init_0 at hf
      cases hf
      exact ih.2.1 x0 (pm_sz h) x0 (pm_new h 33 40980) (pr_new K0) Hx0 (pr_n K0) Hx0 hi
    refine ⟨fun x0 s0 s1 h K0 Hx0 Hs0 Hs1 hf => ?_, ?_⟩
    · obtain ⟨y, hf, hi⟩ := pm_iter_s hf
      have hf : tX16_init_9 x0 s0 s1 h = some y := hf
      unfold tX16_init_9 at hf
      obtain ⟨k1, hf⟩ := pm_if hf
      cases hf
      exact ih.2.2.1 x0 (pm_sz (pm_setR h s1 0 (some s0))) x0 (pm_new (pm_setR h s1 0 (some s0)) 42 16) (pr_new (pr_sR K0 Hs1 Hs0)) Hx0 (pr_n (pr_sR K0 Hs1 Hs0)) Hx0 hi
    refine ⟨fun x0 s0 s1 h K0 Hx0 Hs0 Hs1 hf => ?_, ?_⟩
    · obtain ⟨y, hf, hi⟩ := pm_iter_s hf
      have hf : tX16_init_18 x0 s0 s1 h = some y := hf
      unfold tX16_init_18 at hf
      obtain ⟨k2, hf⟩ := pm_if hf
      cases hf
      exact ih.2.2.2.1 x0 (pm_sz (pm_setR h s1 4 (some s0))) x0 (pm_flt (pm_setR h s1 4 (some s0))) (pr_flt (pr_sR K0 Hs1 Hs0)) Hx0 (pr_n (pr_sR K0 Hs1 Hs0)) Hx0 hi
    refine ⟨fun x0 s0 s1 h K0 Hx0 Hs0 Hs1 hf => ?_, ?_⟩
    · obtain ⟨y, hf, hi⟩ := pm_iter_s hf
      have hf : tX16_init_29 x0 s0 s1 h = some y := hf
      unfold tX16_init_29 at hf
      obtain ⟨k3, hf⟩ := pm_if hf
      cases hf
      exact ih.2.2.2.2.1 x0 (pm_sz (pm_setR h s1 9 (some s0))) x0 (pm_new (pm_setR h s1 9 (some s0)) 34 40962) (pr_new (pr_sR K0 Hs1 Hs0)) Hx0 (pr_n (pr_sR K0 Hs1 Hs0)) Hx0 hi
    refine ⟨fun x0 s0 s1 h K0 Hx0 Hs0 Hs1 hf => ?_, ?_⟩
    · obtain ⟨y, hf, hi⟩ := pm_iter_s hf
      have hf : tX16_init_37 x0 s0 s1 h = some y := hf
      unfold tX16_init_37 at hf
      obtain ⟨k4, hf⟩ := pm_if hf
      cases hf
      exact ih.2.2.2.2.2.1 x0 (pm_sz (pm_setR h s1 14 (some s0))) x0 (pm_new (pm_setR h s1 14 (some s0)) 34 40962) (pr_new (pr_sR K0 Hs1 Hs0)) Hx0 (pr_n (pr_sR K0 Hs1 Hs0)) Hx0 hi
    refine ⟨fun x0 s0 s1 h K0 Hx0 Hs0 Hs1 hf => ?_, ?_⟩
    · obtain ⟨y, hf, hi⟩ := pm_iter_s hf
      have hf : tX16_init_45 x0 s0 s1 h = some y := hf
      unfold tX16_init_45 at hf
      obtain ⟨k5, hf⟩ := pm_if hf
      cases hf
      exact ih.2.2.2.2.2.2.1 x0 (pm_sz (pm_setR h s1 15 (some s0))) x0 (pm_new (pm_setR h s1 15 (some s0)) 32 128) (pr_new (pr_sR K0 Hs1 Hs0)) Hx0 (pr_n (pr_sR K0 Hs1 Hs0)) Hx0 hi
    refine ⟨fun x0 s0 s1 h K0 Hx0 Hs0 Hs1 hf => ?_, ?_⟩
    · obtain ⟨y, hf, hi⟩ := pm_iter_s hf
      have hf : tX16_init_54 x0 s0 s1 h = some y := hf
      unfold tX16_init_54 at hf
      obtain ⟨k6, hf⟩ := pm_if hf
      cases hf
      exact ih.2.2.2.2.2.2.2.1 x0 (pm_sz (pm_setR h s1 20 (some s0))) x0 (pm_new (pm_setR h s1 20 (some s0)) 34 1001) (pr_new (pr_sR K0 Hs1 Hs0)) Hx0 (pr_n (pr_sR K0 Hs1 Hs0)) Hx0 hi
    refine ⟨fun x0 s0 s1 h K0 Hx0 Hs0 Hs1 hf => ?_, ?_⟩
    · obtain ⟨y, hf, hi⟩ := pm_iter_s hf
      have hf : tX16_init_63 x0 s0 s1 h = some y := hf
      unfold tX16_init_63 at hf
      obtain ⟨k7, hf⟩ := pm_if hf
      cases hf
      exact ih.2.2.2.2.2.2.2.2.1 x0 (pm_sz (pm_setR h s1 22 (some s0))) x0 (pm_new (pm_setR h s1 22 (some s0)) 34 200) (pr_new (pr_sR K0 Hs1 Hs0)) Hx0 (pr_n (pr_sR K0 Hs1 Hs0)) Hx0 hi
    refine ⟨fun x0 s0 s1 h K0 Hx0 Hs0 Hs1 hf => ?_, ?_⟩
    · obtain ⟨y, hf, hi⟩ := pm_iter_s hf
      have hf : tX16_init_72 x0 s0 s1 h = some y := hf
      unfold tX16_init_72 at hf
      obtain ⟨k8, hf⟩ := pm_if hf
      cases hf
      exact ih.2.2.2.2.2.2.2.2.2.1 x0 (pm_sz (pm_setR h s1 25 (some s0))) x0 (pm_new (pm_setR h s1 25 (some s0)) 35 200) (pr_new (pr_sR K0 Hs1 Hs0)) Hx0 (pr_n (pr_sR K0 Hs1 Hs0)) Hx0 hi
    refine ⟨fun x0 s0 s1 h K0 Hx0 Hs0 Hs1 hf => ?_, ?_⟩
    · obtain ⟨y, hf, hi⟩ := pm_iter_s hf
      have hf : tX16_init_81 x0 s0 s1 h = some y := hf
      unfold tX16_init_81 at hf
      obtain ⟨k9, hf⟩ := pm_if hf
      cases hf
      exact ih.2.2.2.2.2.2.2.2.2.2.1 x0 (pm_sz (pm_setR h s1 26 (some s0))) x0 (pm_new (pm_setR h s1 26 (some s0)) 34 200) (pr_new (pr_sR K0 Hs1 Hs0)) Hx0 (pr_n (pr_sR K0 Hs1 Hs0)) Hx0 hi
    refine ⟨fun x0 s0 s1 h K0 Hx0 Hs0 Hs1 hf => ?_, ?_⟩
    · obtain ⟨y, hf, hi⟩ := pm_iter_s hf
      have hf : tX16_init_90 x0 s0 s1 h = some y := hf
      unfold tX16_init_90 at hf
      obtain ⟨k10, hf⟩ := pm_if hf
      cases hf
      exact ih.2.2.2.2.2.2.2.2.2.2.2.1 x0 (pm_sz (pm_setR h s1 27 (some s0))) x0 (pm_new (pm_setR h s1 27 (some s0)) 32 200) (pr_new (pr_sR K0 Hs1 Hs0)) Hx0 (pr_n (pr_sR K0 Hs1 Hs0)) Hx0 hi
    refine ⟨fun x0 s0 s1 h K0 Hx0 Hs0 Hs1 hf => ?_, ?_⟩
    · obtain ⟨y, hf, hi⟩ := pm_iter_s hf
      have hf : tX16_init_99 x0 s0 s1 h = some y := hf
      unfold tX16_init_99 at hf
      obtain ⟨k11, hf⟩ := pm_if hf
      cases hf
      exact ih.2.2.2.2.2.2.2.2.2.2.2.2.1 x0 (pm_sz (pm_setR h s1 28 (some s0))) x0 (pm_new (pm_setR h s1 28 (some s0)) 34 16) (pr_new (pr_sR K0 Hs1 Hs0)) Hx0 (pr_n (pr_sR K0 Hs1 Hs0)) Hx0 hi
    refine ⟨fun x0 s0 s1 h K0 Hx0 Hs0 Hs1 hf => ?_, ?_⟩
    · obtain ⟨y, hf, hi⟩ := pm_iter_s hf
      have hf : tX16_init_107 x0 s0 s1 h = some y := hf
      unfold tX16_init_107 at hf
      obtain ⟨k12, hf⟩ := pm_if hf
      cases hf
      exact ih.2.2.2.2.2.2.2.2.2.2.2.2.2.1 x0 (pm_sz (pm_setR h s1 32 (some s0))) x0 (pm_new (pm_setR h s1 32 (some s0)) 15 0) (pr_new (pr_sR K0 Hs1 Hs0)) Hx0 (pr_n (pr_sR K0 Hs1 Hs0)) Hx0 hi
    refine ⟨fun x0 s0 s1 h K0 Hx0 Hs0 Hs1 hf => ?_, ?_⟩
    · obtain ⟨y, hf, hi⟩ := pm_iter_s hf
      have hf : tX16_init_114 x0 s0 s1 h = some y := hf
      unfold tX16_init_114 at hf
      obtain ⟨v13, e14, hf⟩ := pm_lt hf
      obtain ⟨k15, hf⟩ := pm_if hf
      cases hf
      exact ih.2.2.2.2.2.2.2.2.2.2.2.2.2.2.1 x0 (pm_sz (pm_setR h s1 34 (some s0))) x0 (pm_new (pm_setR h s1 34 (some s0)) 15 0) (pr_new (pr_sR K0 Hs1 Hs0)) Hx0 (pr_n (pr_sR K0 Hs1 Hs0)) Hx0 hi
    refine ⟨fun x0 s0 s1 h K0 Hx0 Hs0 Hs1 hf => ?_, ?_⟩
    · obtain ⟨y, hf, hi⟩ := pm_iter_s hf
      have hf : tX16_init_125 x0 s0 s1 h = some y := hf
      unfold tX16_init_125 at hf
      obtain ⟨v16, e17, hf⟩ := pm_lt hf
      obtain ⟨k18, hf⟩ := pm_if hf
      cases hf
      exact ih.2.2.2.2.2.2.2.2.2.2.2.2.2.2.2.1 x0 (pm_sz (pm_setR h s1 35 (some s0))) x0 (pm_new (pm_setR h s1 35 (some s0)) 34 512) (pr_new (pr_sR K0 Hs1 Hs0)) Hx0 (pr_n (pr_sR K0 Hs1 Hs0)) Hx0 hi
    refine ⟨fun x0 s0 s1 h K0 Hx0 Hs0 Hs1 hf => ?_, ?_⟩
    · obtain ⟨y, hf, hi⟩ := pm_iter_s hf
      have hf : tX16_init_138 x0 s0 s1 h = some y := hf
      unfold tX16_init_138 at hf
      obtain ⟨k19, hf⟩ := pm_if hf
      cases hf
      exact ih.2.2.2.2.2.2.2.2.2.2.2.2.2.2.2.2.1 x0 (pm_sz (pm_setR h s1 37 (some s0))) x0 (pm_new (pm_setR h s1 37 (some s0)) 34 512) (pr_new (pr_sR K0 Hs1 Hs0)) Hx0 (pr_n (pr_sR K0 Hs1 Hs0)) Hx0 hi
    refine ⟨fun x0 s0 s1 h K0 Hx0 Hs0 Hs1 hf => ?_, ?_⟩
    · obtain ⟨y, hf, hi⟩ := pm_iter_s hf
      have hf : tX16_init_147 x0 s0 s1 h = some y := hf
      unfold tX16_init_147 at hf
      obtain ⟨k20, hf⟩ := pm_if hf
      cases hf
      exact ih.2.2.2.2.2.2.2.2.2.2.2.2.2.2.2.2.2.1 x0 (pm_sz (pm_setR h s1 38 (some s0))) x0 (pm_new (pm_setR h s1 38 (some s0)) 34 512) (pr_new (pr_sR K0 Hs1 Hs0)) Hx0 (pr_n (pr_sR K0 Hs1 Hs0)) Hx0 hi
    refine ⟨fun x0 s0 s1 h K0 Hx0 Hs0 Hs1 hf => ?_, ?_⟩
    · obtain ⟨y, hf, hi⟩ := pm_iter_s hf
      have hf : tX16_init_156 x0 s0 s1 h = some y := hf
      unfold tX16_init_156 at hf
      obtain ⟨k21, hf⟩ := pm_if hf
      cases hf
      exact ih.2.2.2.2.2.2.2.2.2.2.2.2.2.2.2.2.2.2.1 x0 (pm_sz (pm_setR h s1 39 (some s0))) x0 (pm_new (pm_setR h s1 39 (some s0)) 34 512) (pr_new (pr_sR K0 Hs1 Hs0)) Hx0 (pr_n (pr_sR K0 Hs1 Hs0)) Hx0 hi
    refine ⟨fun x0 s0 s1 h K0 Hx0 Hs0 Hs1 hf => ?_, ?_⟩
    · obtain ⟨y, hf, hi⟩ := pm_iter_s hf
      have hf : tX16_init_165 x0 s0 s1 h = some y := hf
      unfold tX16_init_165 at hf
      obtain ⟨k22, hf⟩ := pm_if hf
      cases hf
      exact ih.2.2.2.2.2.2.2.2.2.2.2.2.2.2.2.2.2.2.2.1 x0 (pm_sz (pm_setR h s1 40 (some s0))) x0 (pm_new (pm_setR h s1 40 (some s0)) 34 512) (pr_new (pr_sR K0 Hs1 Hs0)) Hx0 (pr_n (pr_sR K0 Hs1 Hs0)) Hx0 hi
    refine ⟨fun x0 s0 s1 h K0 Hx0 Hs0 Hs1 hf => ?_, ?_⟩
    · obtain ⟨y, hf, hi⟩ := pm_iter_s hf
      have hf : tX16_init_174 x0 s0 s1 h = some y := hf
      unfold tX16_init_174 at hf
      obtain ⟨k23, hf⟩ := pm_if hf
      cases hf
      exact ih.2.2.2.2.2.2.2.2.2.2.2.2.2.2.2.2.2.2.2.2.1 x0 (pm_sz (pm_setR h s1 41 (some s0))) x0 (pm_new (pm_setR h s1 41 (some s0)) 34 512) (pr_new (pr_sR K0 Hs1 Hs0)) Hx0 (pr_n (pr_sR K0 Hs1 Hs0)) Hx0 hi
    refine ⟨fun x0 s0 s1 h K0 Hx0 Hs0 Hs1 hf => ?_, ?_⟩
    · obtain ⟨y, hf, hi⟩ := pm_iter_s hf
      have hf : tX16_init_183 x0 s0 s1 h = some y := hf
      unfold tX16_init_183 at hf
      obtain ⟨k24, hf⟩ := pm_if hf
      cases hf
      exact ih.2.2.2.2.2.2.2.2.2.2.2.2.2.2.2.2.2.2.2.2.2.1 x0 (pm_sz (pm_setR h s1 42 (some s0))) x0 (pm_new (pm_setR h s1 42 (some s0)) 32 512) (pr_new (pr_sR K0 Hs1 Hs0)) Hx0 (pr_n (pr_sR K0 Hs1 Hs0)) Hx0 hi
    refine ⟨fun x0 s0 s1 h K0 Hx0 Hs0 Hs1 hf => ?_, ?_⟩
    · obtain ⟨y, hf, hi⟩ := pm_iter_s hf
      have hf : tX16_init_192 x0 s0 s1 h = some y := hf
      unfold tX16_init_192 at hf
      obtain ⟨k25, hf⟩ := pm_if hf
      obtain ⟨k26, hf⟩ := pm_if hf
      cases hf
      exact ih.2.2.2.2.2.2.2.2.2.2.2.2.2.2.2.2.2.2.2.2.2.2.1 x0 (pm_sz (pm_setI (pm_setR h s1 43 (some s0)) x0 47 1024)) x0 (pm_new (pm_setI (pm_setR h s1 43 (some s0)) x0 47 1024) 34 32) (pr_new (pr_sI (pr_sR K0 Hs1 Hs0) Hx0)) Hx0 (pr_n (pr_sI (pr_sR K0 Hs1 Hs0) Hx0)) Hx0 hi
    refine ⟨fun x0 s0 s1 h K0 Hx0 Hs0 Hs1 hf => ?_, ?_⟩
    · obtain ⟨y, hf, hi⟩ := pm_iter_s hf
      have hf : tX16_init_207 x0 s0 s1 h = some y := hf
      unfold tX16_init_207 at hf
      obtain ⟨k27, hf⟩ := pm_if hf
      cases hf
      exact ih.2.2.2.2.2.2.2.2.2.2.2.2.2.2.2.2.2.2.2.2.2.2.2.1 x0 (pm_sz (pm_setR h s1 48 (some s0))) x0 (pm_new (pm_setR h s1 48 (some s0)) 34 32) (pr_new (pr_sR K0 Hs1 Hs0)) Hx0 (pr_n (pr_sR K0 Hs1 Hs0)) Hx0 hi
    refine ⟨fun x0 s0 s1 h K0 Hx0 Hs0 Hs1 hf => ?_, ?_⟩
    · obtain ⟨y, hf, hi⟩ := pm_iter_s hf
      have hf : tX16_init_215 x0 s0 s1 h = some y := hf
      unfold tX16_init_215 at hf
      obtain ⟨k28, hf⟩ := pm_if hf
      cases hf
      exact ih.2.2.2.2.2.2.2.2.2.2.2.2.2.2.2.2.2.2.2.2.2.2.2.2.1 x0 (pm_sz (pm_setR h s1 49 (some s0))) x0 (pm_new (pm_setR h s1 49 (some s0)) 35 32) (pr_new (pr_sR K0 Hs1 Hs0)) Hx0 (pr_n (pr_sR K0 Hs1 Hs0)) Hx0 hi
    refine ⟨fun x0 s0 s1 h K0 Hx0 Hs0 Hs1 hf => ?_, ?_⟩
    · obtain ⟨y, hf, hi⟩ := pm_iter_s hf
      have hf : tX16_init_223 x0 s0 s1 h = some y := hf
      unfold tX16_init_223 at hf
      obtain ⟨k29, hf⟩ := pm_if hf
      cases hf
      exact ih.2.2.2.2.2.2.2.2.2.2.2.2.2.2.2.2.2.2.2.2.2.2.2.2.2.1 x0 (pm_sz (pm_setR h s1 50 (some s0))) x0 (pm_new (pm_setR h s1 50 (some s0)) 34 32768) (pr_new (pr_sR K0 Hs1 Hs0)) Hx0 (pr_n (pr_sR K0 Hs1 Hs0)) Hx0 hi
    refine ⟨fun x0 s0 s1 h K0 Hx0 Hs0 Hs1 hf => ?_, ?_⟩
    · obtain ⟨y, hf, hi⟩ := pm_iter_s hf
      have hf : tX16_init_231 x0 s0 s1 h = some y := hf
      unfold tX16_init_231 at hf
      obtain ⟨k30, hf⟩ := pm_if hf
      obtain ⟨k31, hf⟩ := pm_if hf
      cases hf
      exact ih.2.2.2.2.2.2.2.2.2.2.2.2.2.2.2.2.2.2.2.2.2.2.2.2.2.2.1 x0 (pm_sz (pm_setI (pm_setR h s1 51 (some s0)) x0 53 8)) x0 (pm_new (pm_setI (pm_setR h s1 51 (some s0)) x0 53 8) 34 16) (pr_new (pr_sI (pr_sR K0 Hs1 Hs0) Hx0)) Hx0 (pr_n (pr_sI (pr_sR K0 Hs1 Hs0) Hx0)) Hx0 hi
    refine ⟨fun x0 s0 s1 h K0 Hx0 Hs0 Hs1 hf => ?_, ?_⟩
    · obtain ⟨y, hf, hi⟩ := pm_iter_s hf
      have hf : tX16_init_245 x0 s0 s1 h = some y := hf
      unfold tX16_init_245 at hf
      obtain ⟨k32, hf⟩ := pm_if hf
      cases hf
      exact ih.2.2.2.2.2.2.2.2.2.2.2.2.2.2.2.2.2.2.2.2.2.2.2.2.2.2.2.1 x0 (pm_sz (pm_setR h s1 54 (some s0))) x0 (pm_new (pm_setR h s1 54 (some s0)) 35 16) (pr_new (pr_sR K0 Hs1 Hs0)) Hx0 (pr_n (pr_sR K0 Hs1 Hs0)) Hx0 hi
    refine ⟨fun x0 s0 s1 h K0 Hx0 Hs0 Hs1 hf => ?_, ?_⟩
    · obtain ⟨y, hf, hi⟩ := pm_iter_s hf
      have hf : tX16_init_253 x0 s0 s1 h = some y := hf
      unfold tX16_init_253 at hf
      obtain ⟨k33, hf⟩ := pm_if hf
      cases hf
      exact ih.2.2.2.2.2.2.2.2.2.2.2.2.2.2.2.2.2.2.2.2.2.2.2.2.2.2.2.2.1 x0 (pm_sz (pm_setR h s1 55 (some s0))) x0 (pm_new (pm_setR h s1 55 (some s0)) 34 128) (pr_new (pr_sR K0 Hs1 Hs0)) Hx0 (pr_n (pr_sR K0 Hs1 Hs0)) Hx0 hi
    refine ⟨fun x0 s0 s1 h K0 Hx0 Hs0 Hs1 hf => ?_, ?_⟩
    · obtain ⟨y, hf, hi⟩ := pm_iter_s hf
      have hf : tX16_init_262 x0 s0 s1 h = some y := hf
      unfold tX16_init_262 at hf
      obtain ⟨k34, hf⟩ := pm_if hf
      cases hf
      exact ih.2.2.2.2.2.2.2.2.2.2.2.2.2.2.2.2.2.2.2.2.2.2.2.2.2.2.2.2.2.1 x0 (pm_sz (pm_setR h s1 56 (some s0))) x0 (pm_new (pm_setR h s1 56 (some s0)) 33 524288) (pr_new (pr_sR K0 Hs1 Hs0)) Hx0 (pr_n (pr_sR K0 Hs1 Hs0)) Hx0 hi
    refine ⟨fun x0 s0 s1 h K0 Hx0 Hs0 Hs1 hf => ?_, ?_⟩
    · obtain ⟨y, hf, hi⟩ := pm_iter_s hf
      have hf : tX16_init_270 x0 s0 s1 h = some y := hf
      unfold tX16_init_270 at hf
      obtain ⟨k35, hf⟩ := pm_if hf
      cases hf
      exact ih.2.2.2.2.2.2.2.2.2.2.2.2.2.2.2.2.2.2.2.2.2.2.2.2.2.2.2.2.2.2.1 x0 (pm_sz (pm_setR h s1 57 (some s0))) x0 (pm_new (pm_setR h s1 57 (some s0)) 34 256) (pr_new (pr_sR K0 Hs1 Hs0)) Hx0 (pr_n (pr_sR K0 Hs1 Hs0)) Hx0 hi
    refine ⟨fun x0 s0 s1 h K0 Hx0 Hs0 Hs1 hf => ?_, ?_⟩
    · obtain ⟨y, hf, hi⟩ := pm_iter_s hf
      have hf : tX16_init_279 x0 s0 s1 h = some y := hf
      unfold tX16_init_279 at hf
      obtain ⟨k36, hf⟩ := pm_if hf
      cases hf
      exact ih.2.2.2.2.2.2.2.2.2.2.2.2.2.2.2.2.2.2.2.2.2.2.2.2.2.2.2.2.2.2.2.1 x0 (pm_sz (pm_setR h s1 59 (some s0))) x0 (pm_new (pm_setR h s1 59 (some s0)) 32 256) (pr_new (pr_sR K0 Hs1 Hs0)) Hx0 (pr_n (pr_sR K0 Hs1 Hs0)) Hx0 hi
    refine ⟨fun x0 s0 s1 h K0 Hx0 Hs0 Hs1 hf => ?_, ?_⟩
    · obtain ⟨y, hf, hi⟩ := pm_iter_s hf
      have hf : tX16_init_288 x0 s0 s1 h = some y := hf
      unfold tX16_init_288 at hf
      obtain ⟨k37, hf⟩ := pm_if hf
      cases hf
      exact ih.2.2.2.2.2.2.2.2.2.2.2.2.2.2.2.2.2.2.2.2.2.2.2.2.2.2.2.2.2.2.2.2.1 x0 (pm_sz (pm_setR h s1 60 (some s0))) x0 (pm_new (pm_setR h s1 60 (some s0)) 35 256) (pr_new (pr_sR K0 Hs1 Hs0)) Hx0 (pr_n (pr_sR K0 Hs1 Hs0)) Hx0 hi
    refine ⟨fun x0 s0 s1 h K0 Hx0 Hs0 Hs1 hf => ?_, ?_⟩
    · obtain ⟨y, hf, hi⟩ := pm_iter_s hf
      have hf : tX16_init_297 x0 s0 s1 h = some y := hf
      unfold tX16_init_297 at hf
      obtain ⟨k38, hf⟩ := pm_if hf
      cases hf
      exact ih.2.2.2.2.2.2.2.2.2.2.2.2.2.2.2.2.2.2.2.2.2.2.2.2.2.2.2.2.2.2.2.2.2.1 x0 (pm_sz (pm_setR h s1 61 (some s0))) x0 (pm_new (pm_setR h s1 61 (some s0)) 34 16) (pr_new (pr_sR K0 Hs1 Hs0)) Hx0 (pr_n (pr_sR K0 Hs1 Hs0)) Hx0 hi
    refine ⟨fun x0 s0 s1 h K0 Hx0 Hs0 Hs1 hf => ?_, ?_⟩
    · obtain ⟨y, hf, hi⟩ := pm_iter_s hf
      have hf : tX16_init_305 x0 s0 s1 h = some y := hf
      unfold tX16_init_305 at hf
      obtain ⟨k39, hf⟩ := pm_if hf
      cases hf
      exact ih.2.2.2.2.2.2.2.2.2.2.2.2.2.2.2.2.2.2.2.2.2.2.2.2.2.2.2.2.2.2.2.2.2.2.1 x0 (pm_sz (pm_setR h s1 63 (some s0))) x0 (pm_new (pm_setR h s1 63 (some s0)) 34 2048) (pr_new (pr_sR K0 Hs1 Hs0)) Hx0 (pr_n (pr_sR K0 Hs1 Hs0)) Hx0 hi
    refine ⟨fun x0 s0 s1 h K0 Hx0 Hs0 Hs1 hf => ?_, ?_⟩
    · obtain ⟨y, hf, hi⟩ := pm_iter_s hf
      have hf : tX16_init_314 x0 s0 s1 h = some y := hf
      unfold tX16_init_314 at hf
      obtain ⟨k40, hf⟩ := pm_if hf
      cases hf
      exact ih.2.2.2.2.2.2.2.2.2.2.2.2.2.2.2.2.2.2.2.2.2.2.2.2.2.2.2.2.2.2.2.2.2.2.2.1 x0 (pm_sz (pm_setR h s1 64 (some s0))) x0 (pm_new (pm_setR h s1 64 (some s0)) 34 2048) (pr_new (pr_sR K0 Hs1 Hs0)) Hx0 (pr_n (pr_sR K0 Hs1 Hs0)) Hx0 hi
    refine ⟨fun x0 s0 s1 h K0 Hx0 Hs0 Hs1 hf => ?_, ?_⟩
    · obtain ⟨y, hf, hi⟩ := pm_iter_s hf
      have hf : tX16_init_323 x0 s0 s1 h = some y := hf
      unfold tX16_init_323 at hf
      obtain ⟨k41, hf⟩ := pm_if hf
      cases hf
      exact ih.2.2.2.2.2.2.2.2.2.2.2.2.2.2.2.2.2.2.2.2.2.2.2.2.2.2.2.2.2.2.2.2.2.2.2.2.1 x0 (pm_sz (pm_setR h s1 65 (some s0))) x0 (pm_new (pm_setR h s1 65 (some s0)) 34 2048) (pr_new (pr_sR K0 Hs1 Hs0)) Hx0 (pr_n (pr_sR K0 Hs1 Hs0)) Hx0 hi
    refine ⟨fun x0 s0 s1 h K0 Hx0 Hs0 Hs1 hf => ?_, ?_⟩
    · obtain ⟨y, hf, hi⟩ := pm_iter_s hf
      have hf : tX16_init_332 x0 s0 s1 h = some y := hf
      unfold tX16_init_332 at hf
      obtain ⟨k42, hf⟩ := pm_if hf
      cases hf
      exact ih.2.2.2.2.2.2.2.2.2.2.2.2.2.2.2.2.2.2.2.2.2.2.2.2.2.2.2.2.2.2.2.2.2.2.2.2.2.1 x0 (pm_sz (pm_setR h s1 66 (some s0))) x0 (pm_new (pm_setR h s1 66 (some s0)) 34 2048) (pr_new (pr_sR K0 Hs1 Hs0)) Hx0 (pr_n (pr_sR K0 Hs1 Hs0)) Hx0 hi
    refine ⟨fun x0 s0 s1 h K0 Hx0 Hs0 Hs1 hf => ?_, ?_⟩
    · obtain ⟨y, hf, hi⟩ := pm_iter_s hf
      have hf : tX16_init_341 x0 s0 s1 h = some y := hf
      unfold tX16_init_341 at hf
      obtain ⟨k43, hf⟩ := pm_if hf
      cases hf
      exact ih.2.2.2.2.2.2.2.2.2.2.2.2.2.2.2.2.2.2.2.2.2.2.2.2.2.2.2.2.2.2.2.2.2.2.2.2.2.2.1 x0 (pm_sz (pm_setR h s1 67 (some s0))) x0 (pm_new (pm_setR h s1 67 (some s0)) 34 1024) (pr_new (pr_sR K0 Hs1 Hs0)) Hx0 (pr_n (pr_sR K0 Hs1 Hs0)) Hx0 hi
    refine ⟨fun x0 s0 s1 h K0 Hx0 Hs0 Hs1 hf => ?_, ?_⟩
    · obtain ⟨y, hf, hi⟩ := pm_iter_s hf
      have hf : tX16_init_350 x0 s0 s1 h = some y := hf
      unfold tX16_init_350 at hf
      obtain ⟨k44, hf⟩ := pm_if hf
      cases hf
      exact ih.2.2.2.2.2.2.2.2.2.2.2.2.2.2.2.2.2.2.2.2.2.2.2.2.2.2.2.2.2.2.2.2.2.2.2.2.2.2.2.1 x0 (pm_sz (pm_setR h s1 68 (some s0))) x0 (pm_new (pm_setR h s1 68 (some s0)) 34 1024) (pr_new (pr_sR K0 Hs1 Hs0)) Hx0 (pr_n (pr_sR K0 Hs1 Hs0)) Hx0 hi
    refine ⟨fun x0 s0 s1 h K0 Hx0 Hs0 Hs1 hf => ?_, ?_⟩
    · obtain ⟨y, hf, hi⟩ := pm_iter_s hf
      have hf : tX16_init_359 x0 s0 s1 h = some y := hf
      unfold tX16_init_359 at hf
      obtain ⟨k45, hf⟩ := pm_if hf
      cases hf
      exact ih.2.2.2.2.2.2.2.2.2.2.2.2.2.2.2.2.2.2.2.2.2.2.2.2.2.2.2.2.2.2.2.2.2.2.2.2.2.2.2.2.1 x0 (pm_sz (pm_setR h s1 69 (some s0))) x0 (pm_new (pm_setR h s1 69 (some s0)) 32 1024) (pr_new (pr_sR K0 Hs1 Hs0)) Hx0 (pr_n (pr_sR K0 Hs1 Hs0)) Hx0 hi
    refine ⟨fun x0 s0 s1 h K0 Hx0 Hs0 Hs1 hf => ?_, ?_⟩
    · obtain ⟨y, hf, hi⟩ := pm_iter_s hf
      have hf : tX16_init_368 x0 s0 s1 h = some y := hf
      unfold tX16_init_368 at hf
      obtain ⟨k46, hf⟩ := pm_if hf
      cases hf
      exact ih.2.2.2.2.2.2.2.2.2.2.2.2.2.2.2.2.2.2.2.2.2.2.2.2.2.2.2.2.2.2.2.2.2.2.2.2.2.2.2.2.2.1 x0 (pm_sz (pm_setR h s1 70 (some s0))) x0 (pm_new (pm_setR h s1 70 (some s0)) 34 2048) (pr_new (pr_sR K0 Hs1 Hs0)) Hx0 (pr_n (pr_sR K0 Hs1 Hs0)) Hx0 hi
    refine ⟨fun x0 s0 s1 h K0 Hx0 Hs0 Hs1 hf => ?_, ?_⟩
    · obtain ⟨y, hf, hi⟩ := pm_iter_s hf
      have hf : tX16_init_377 x0 s0 s1 h = some y := hf
      unfold tX16_init_377 at hf
      obtain ⟨k47, hf⟩ := pm_if hf
      cases hf
      exact ih.2.2.2.2.2.2.2.2.2.2.2.2.2.2.2.2.2.2.2.2.2.2.2.2.2.2.2.2.2.2.2.2.2.2.2.2.2.2.2.2.2.2.1 x0 (pm_sz (pm_setR h s1 72 (some s0))) x0 (pm_new (pm_setR h s1 72 (some s0)) 34 64) (pr_new (pr_sR K0 Hs1 Hs0)) Hx0 (pr_n (pr_sR K0 Hs1 Hs0)) Hx0 hi
    refine ⟨fun x0 s0 s1 h K0 Hx0 Hs0 Hs1 hf => ?_, ?_⟩
    · obtain ⟨y, hf, hi⟩ := pm_iter_s hf
      have hf : tX16_init_385 x0 s0 s1 h = some y := hf
      unfold tX16_init_385 at hf
      obtain ⟨k48, hf⟩ := pm_if hf
      cases hf
      exact ih.2.2.2.2.2.2.2.2.2.2.2.2.2.2.2.2.2.2.2.2.2.2.2.2.2.2.2.2.2.2.2.2.2.2.2.2.2.2.2.2.2.2.2.1 x0 (pm_sz (pm_setR h s1 74 (some s0))) x0 (pm_new (pm_setR h s1 74 (some s0)) 34 64) (pr_new (pr_sR K0 Hs1 Hs0)) Hx0 (pr_n (pr_sR K0 Hs1 Hs0)) Hx0 hi
    refine ⟨fun x0 s0 s1 h K0 Hx0 Hs0 Hs1 hf => ?_, ?_⟩
    · obtain ⟨y, hf, hi⟩ := pm_iter_s hf
      have hf : tX16_init_393 x0 s0 s1 h = some y := hf
      unfold tX16_init_393 at hf
      obtain ⟨k49, hf⟩ := pm_if hf
      obtain ⟨k50, hf⟩ := pm_if hf
      cases hf
      exact ih.2.2.2.2.2.2.2.2.2.2.2.2.2.2.2.2.2.2.2.2.2.2.2.2.2.2.2.2.2.2.2.2.2.2.2.2.2.2.2.2.2.2.2.2.1 x0 (pm_sz (pm_setI (pm_setR h s1 75 (some s0)) x0 79 (-1))) x0 (pm_new (pm_setI (pm_setR h s1 75 (some s0)) x0 79 (-1)) 35 16) (pr_new (pr_sI (pr_sR K0 Hs1 Hs0) Hx0)) Hx0 (pr_n (pr_sI (pr_sR K0 Hs1 Hs0) Hx0)) Hx0 hi
    refine ⟨fun x0 s0 s1 h K0 Hx0 Hs0 Hs1 hf => ?_, ?_⟩
    · obtain ⟨y, hf, hi⟩ := pm_iter_s hf
      have hf : tX16_init_406 x0 s0 s1 h = some y := hf
      unfold tX16_init_406 at hf
      obtain ⟨k51, hf⟩ := pm_if hf
      cases hf
      exact ih.2.2.2.2.2.2.2.2.2.2.2.2.2.2.2.2.2.2.2.2.2.2.2.2.2.2.2.2.2.2.2.2.2.2.2.2.2.2.2.2.2.2.2.2.2.1 x0 (pm_sz (pm_setR h s1 82 (some s0))) x0 (pm_new (pm_setR h s1 82 (some s0)) 35 16) (pr_new (pr_sR K0 Hs1 Hs0)) Hx0 (pr_n (pr_sR K0 Hs1 Hs0)) Hx0 hi
    refine ⟨fun x0 s0 s1 h K0 Hx0 Hs0 Hs1 hf => ?_, ?_⟩
    · obtain ⟨y, hf, hi⟩ := pm_iter_s hf
      have hf : tX16_init_414 x0 s0 s1 h = some y := hf
      unfold tX16_init_414 at hf
      obtain ⟨k52, hf⟩ := pm_if hf
      cases hf
      exact ih.2.2.2.2.2.2.2.2.2.2.2.2.2.2.2.2.2.2.2.2.2.2.2.2.2.2.2.2.2.2.2.2.2.2.2.2.2.2.2.2.2.2.2.2.2.2.1 x0 (pm_sz (pm_setR h s1 84 (some s0))) x0 (pm_new (pm_setR h s1 84 (some s0)) 34 200) (pr_new (pr_sR K0 Hs1 Hs0)) Hx0 (pr_n (pr_sR K0 Hs1 Hs0)) Hx0 hi
    refine ⟨fun x0 s0 s1 h K0 Hx0 Hs0 Hs1 hf => ?_, ?_⟩
    · obtain ⟨y, hf, hi⟩ := pm_iter_s hf
      have hf : tX16_init_423 x0 s0 s1 h = some y := hf
      unfold tX16_init_423 at hf
      obtain ⟨k53, hf⟩ := pm_if hf
      cases hf
      exact ih.2.2.2.2.2.2.2.2.2.2.2.2.2.2.2.2.2.2.2.2.2.2.2.2.2.2.2.2.2.2.2.2.2.2.2.2.2.2.2.2.2.2.2.2.2.2.2.1 x0 (pm_sz (pm_setR h s1 86 (some s0))) x0 (pm_new (pm_setR h s1 86 (some s0)) 34 200) (pr_new (pr_sR K0 Hs1 Hs0)) Hx0 (pr_n (pr_sR K0 Hs1 Hs0)) Hx0 hi
    refine ⟨fun x0 s0 s1 h K0 Hx0 Hs0 Hs1 hf => ?_, ?_⟩
    · obtain ⟨y, hf, hi⟩ := pm_iter_s hf
      have hf : tX16_init_432 x0 s0 s1 h = some y := hf
      unfold tX16_init_432 at hf
      obtain ⟨k54, hf⟩ := pm_if hf
      cases hf
      exact ih.2.2.2.2.2.2.2.2.2.2.2.2.2.2.2.2.2.2.2.2.2.2.2.2.2.2.2.2.2.2.2.2.2.2.2.2.2.2.2.2.2.2.2.2.2.2.2.2.1 x0 (pm_sz (pm_setR h s1 87 (some s0))) x0 (pm_new (pm_setR h s1 87 (some s0)) 34 200) (pr_new (pr_sR K0 Hs1 Hs0)) Hx0 (pr_n (pr_sR K0 Hs1 Hs0)) Hx0 hi
    refine ⟨fun x0 s0 s1 h K0 Hx0 Hs0 Hs1 hf => ?_, ?_⟩
    · obtain ⟨y, hf, hi⟩ := pm_iter_s hf
      have hf : tX16_init_441 x0 s0 s1 h = some y := hf
      unfold tX16_init_441 at hf
      obtain ⟨k55, hf⟩ := pm_if hf
      cases hf
      exact ih.2.2.2.2.2.2.2.2.2.2.2.2.2.2.2.2.2.2.2.2.2.2.2.2.2.2.2.2.2.2.2.2.2.2.2.2.2.2.2.2.2.2.2.2.2.2.2.2.2.1 x0 (pm_sz (pm_setR h s1 88 (some s0))) x0 (pm_new (pm_setR h s1 88 (some s0)) 34 200) (pr_new (pr_sR K0 Hs1 Hs0)) Hx0 (pr_n (pr_sR K0 Hs1 Hs0)) Hx0 hi
    refine ⟨fun x0 s0 s1 h K0 Hx0 Hs0 Hs1 hf => ?_, ?_⟩
    · obtain ⟨y, hf, hi⟩ := pm_iter_s hf
      have hf : tX16_init_450 x0 s0 s1 h = some y := hf
      unfold tX16_init_450 at hf
      obtain ⟨k56, hf⟩ := pm_if hf
      cases hf
      exact ih.2.2.2.2.2.2.2.2.2.2.2.2.2.2.2.2.2.2.2.2.2.2.2.2.2.2.2.2.2.2.2.2.2.2.2.2.2.2.2.2.2.2.2.2.2.2.2.2.2.2.1 x0 (pm_sz (pm_setR h s1 89 (some s0))) x0 (pm_new (pm_setR h s1 89 (some s0)) 34 200) (pr_new (pr_sR K0 Hs1 Hs0)) Hx0 (pr_n (pr_sR K0 Hs1 Hs0)) Hx0 hi
    refine ⟨fun x0 s0 s1 h K0 Hx0 Hs0 Hs1 hf => ?_, ?_⟩
    · obtain ⟨y, hf, hi⟩ := pm_iter_s hf
      have hf : tX16_init_459 x0 s0 s1 h = some y := hf
      unfold tX16_init_459 at hf
      obtain ⟨k57, hf⟩ := pm_if hf
      cases hf
      exact ih.2.2.2.2.2.2.2.2.2.2.2.2.2.2.2.2.2.2.2.2.2.2.2.2.2.2.2.2.2.2.2.2.2.2.2.2.2.2.2.2.2.2.2.2.2.2.2.2.2.2.2.1 x0 (pm_sz (pm_setR h s1 90 (some s0))) x0 (pm_new (pm_setR h s1 90 (some s0)) 34 200) (pr_new (pr_sR K0 Hs1 Hs0)) Hx0 (pr_n (pr_sR K0 Hs1 Hs0)) Hx0 hi
    refine ⟨fun x0 s0 s1 h K0 Hx0 Hs0 Hs1 hf => ?_, ?_⟩
    · obtain ⟨y, hf, hi⟩ := pm_iter_s hf
      have hf : tX16_init_468 x0 s0 s1 h = some y := hf
      unfold tX16_init_468 at hf
      obtain ⟨k58, hf⟩ := pm_if hf
      cases hf
      exact ih.2.2.2.2.2.2.2.2.2.2.2.2.2.2.2.2.2.2.2.2.2.2.2.2.2.2.2.2.2.2.2.2.2.2.2.2.2.2.2.2.2.2.2.2.2.2.2.2.2.2.2.2.1 x0 (pm_sz (pm_setR h s1 91 (some s0))) x0 (pm_new (pm_setR h s1 91 (some s0)) 35 4096) (pr_new (pr_sR K0 Hs1 Hs0)) Hx0 (pr_n (pr_sR K0 Hs1 Hs0)) Hx0 hi
    refine ⟨fun x0 s0 s1 h K0 Hx0 Hs0 Hs1 hf => ?_, ?_⟩
    · obtain ⟨y, hf, hi⟩ := pm_iter_s hf
      have hf : tX16_init_477 x0 s0 s1 h = some y := hf
      unfold tX16_init_477 at hf
      obtain ⟨k59, hf⟩ := pm_if hf
      cases hf
      exact ih.2.2.2.2.2.2.2.2.2.2.2.2.2.2.2.2.2.2.2.2.2.2.2.2.2.2.2.2.2.2.2.2.2.2.2.2.2.2.2.2.2.2.2.2.2.2.2.2.2.2.2.2.2.1 x0 (pm_sz (pm_setR h s1 92 (some s0))) x0 (pm_new (pm_setR h s1 92 (some s0)) 34 40000) (pr_new (pr_sR K0 Hs1 Hs0)) Hx0 (pr_n (pr_sR K0 Hs1 Hs0)) Hx0 hi
    refine ⟨fun x0 s0 s1 h K0 Hx0 Hs0 Hs1 hf => ?_, ?_⟩
    · obtain ⟨y, hf, hi⟩ := pm_iter_s hf
      have hf : tX16_init_485 x0 s0 s1 h = some y := hf
      unfold tX16_init_485 at hf
      obtain ⟨k60, hf⟩ := pm_if hf
      cases hf
      exact ih.2.2.2.2.2.2.2.2.2.2.2.2.2.2.2.2.2.2.2.2.2.2.2.2.2.2.2.2.2.2.2.2.2.2.2.2.2.2.2.2.2.2.2.2.2.2.2.2.2.2.2.2.2.2.1 x0 (pm_sz (pm_setR h s1 97 (some s0))) x0 (pm_new (pm_setR h s1 97 (some s0)) 34 40000) (pr_new (pr_sR K0 Hs1 Hs0)) Hx0 (pr_n (pr_sR K0 Hs1 Hs0)) Hx0 hi
    refine ⟨fun x0 s0 s1 h K0 Hx0 Hs0 Hs1 hf => ?_, ?_⟩
    · obtain ⟨y, hf, hi⟩ := pm_iter_s hf
      have hf : tX16_init_493 x0 s0 s1 h = some y := hf
      unfold tX16_init_493 at hf
      obtain ⟨k61, hf⟩ := pm_if hf
      cases hf
      exact ih.2.2.2.2.2.2.2.2.2.2.2.2.2.2.2.2.2.2.2.2.2.2.2.2.2.2.2.2.2.2.2.2.2.2.2.2.2.2.2.2.2.2.2.2.2.2.2.2.2.2.2.2.2.2.2.1 x0 (pm_sz (pm_setR h s1 98 (some s0))) x0 (pm_new (pm_setR h s1 98 (some s0)) 34 40000) (pr_new (pr_sR K0 Hs1 Hs0)) Hx0 (pr_n (pr_sR K0 Hs1 Hs0)) Hx0 hi
    refine ⟨fun x0 s0 s1 h K0 Hx0 Hs0 Hs1 hf => ?_, ?_⟩
    · obtain ⟨y, hf, hi⟩ := pm_iter_s hf
      have hf : tX16_init_501 x0 s0 s1 h = some y := hf
      unfold tX16_init_501 at hf
      obtain ⟨k62, hf⟩ := pm_if hf
      cases hf
      exact ih.2.2.2.2.2.2.2.2.2.2.2.2.2.2.2.2.2.2.2.2.2.2.2.2.2.2.2.2.2.2.2.2.2.2.2.2.2.2.2.2.2.2.2.2.2.2.2.2.2.2.2.2.2.2.2.2.1 x0 (pm_sz (pm_setR h s1 99 (some s0))) x0 (pm_new (pm_setR h s1 99 (some s0)) 32 40000) (pr_new (pr_sR K0 Hs1 Hs0)) Hx0 (pr_n (pr_sR K0 Hs1 Hs0)) Hx0 hi
    refine ⟨fun x0 s0 s1 h K0 Hx0 Hs0 Hs1 hf => ?_, ?_⟩
    · obtain ⟨y, hf, hi⟩ := pm_iter_s hf
      have hf : tX16_init_509 x0 s0 s1 h = some y := hf
      unfold tX16_init_509 at hf
      obtain ⟨k63, hf⟩ := pm_if hf
      cases hf
      exact ih.2.2.2.2.2.2.2.2.2.2.2.2.2.2.2.2.2.2.2.2.2.2.2.2.2.2.2.2.2.2.2.2.2.2.2.2.2.2.2.2.2.2.2.2.2.2.2.2.2.2.2.2.2.2.2.2.2 x0 0 (pm_setR h s1 100 (some s0)) (pr_sR K0 Hs1 Hs0) Hx0 hi
    refine fun x0 x1 h K0 Hx0 hf => ?_
    obtain ⟨y, hf, hi⟩ := pm_iter_s hf
    have hf : tX16_init_514 x0 x1 h = some y := hf
    unfold tX16_init_514 at hf
    by_cases c64 : 512 ≤ x1
    · have hf := pm_it hf c64
      have hf := Option.some.inj hf
      subst hf
      have hi := Option.some.inj (show some _ = some r from hi)
      subst hi
      exact K0
    · have hf := pm_ie hf c64
      obtain ⟨k65, hf⟩ := pm_if hf
      obtain ⟨v66, e67, hf⟩ := pm_bd hf
      obtain ⟨k68, hf⟩ := pm_if hf
      obtain ⟨u69, hf⟩ := pm_if hf
      obtain ⟨y70, e71, hf⟩ := pm_lt hf
      cases hf
      exact ih.2.2.2.2.2.2.2.2.2.2.2.2.2.2.2.2.2.2.2.2.2.2.2.2.2.2.2.2.2.2.2.2.2.2.2.2.2.2.2.2.2.2.2.2.2.2.2.2.2.2.2.2.2.2.2.2.2 x0 y70 (pm_setI h v66 x1.toNatClampNeg (-1)) (pr_sI K0 (pr_c K0 Hx0 e67)) Hx0 hi
set_option maxHeartbeats 4000000 in
set_option maxRecDepth 100000 in
theorem rgX16_init {A : Nat → Prop} {h0 h : pm_H} (K0 : pr_F A h0 h) {a0 : Nat} (Ha0 : A a0) {r : pm_H} (hf : fX16_init h a0 = some r) : pr_F A h0 r := by
  unfold fX16_init at hf
  obtain ⟨n, hn⟩ := pm_lim_iter hf
  exact (rlX16_init n).1 a0 h K0 Ha0 hn
set_option maxHeartbeats 4000000 in
set_option maxRecDepth 100000 in
theorem rlX16_module {A : Nat → Prop} {h0 : pm_H} {r : (Int32 × pm_H)} : ∀ n : Nat, (∀ (x0 : Nat) (x1 : Int32) (h : pm_H), pr_F A h0 h → A x0 → pm_iter sX16_module n (.inl (x0, x1, h)) = some r → pr_F A h0 r.2) ∧ (∀ (x0 : Nat) (x1 : Int32) (x2 : Option Nat) (s0 : Nat) (s1 : Nat) (h : pm_H), pr_F A h0 h → A x0 → (∀ v, x2 = some v → A v) → A s0 → A s1 → pm_iter sX16_module n (.inr (.inl (x0, x1, x2, s0, s1, h))) = some r → pr_F A h0 r.2) ∧ (∀ (x0 : Nat) (x1 : Int32) (x2 : Option Nat) (h : pm_H), pr_F A h0 h → A x0 → (∀ v, x2 = some v → A v) → pm_iter sX16_module n (.inr (.inr (.inl (x0, x1, x2, h)))) = some r → pr_F A h0 r.2) ∧ (∀ (x0 : Nat) (x1 : Int32) (x2 : Option Nat) (s0 : Nat) (s1 : Nat) (h : pm_H), pr_F A h0 h → A x0 → (∀ v, x2 = some v → A v) → A s0 → A s1 → pm_iter sX16_module n (.inr (.inr (.inr (.inl (x0, x1, x2, s0, s1, h))))) = some r → pr_F A h0 r.2) ∧ (∀ (x0 : Nat) (x1 : Int32) (x2 : Option Nat) (x3 : Int32) (h : pm_H), pr_F A h0 h → A x0 → (∀ v, x2 = some v → A v) → pm_iter sX16_module n (.inr (.inr (.inr (.inr (.inl (x0, x1, x2, x3, h)))))) = some r → pr_F A h0 r.2) ∧ (∀ (x0 : Nat) (x2 : Option Nat) (s0 : Nat) (h : pm_H), pr_F A h0 h → A x0 → (∀ v, x2 = some v → A v) → A s0 → pm_iter sX16_module n (.inr (.inr (.inr (.inr (.inr (x0, x2, s0, h)))))) = some r → pr_F A h0 r.2) := by
  intro n
  induction n with
  | zero => exact ⟨fun _ _ _ _ _ hf => (by cases hf), fun _ _ _ _ _ _ _ _ _ _ _ hf => (by cases hf), fun _ _ _ _ _ _ _ hf => (by cases hf), fun _ _ _ _ _ _ _ _ _ _ _ hf => (by cases hf), fun _ _ _ _ _ _ _ _ hf => (by cases hf), fun _ _ _ _ _ _ _ _ hf => (by cases hf)⟩
  | succ n ih =>
    refine ⟨fun x0 x1 h K0 Hx0 hf => ?_, ?_⟩
    · obtain ⟨y, hf, hi⟩ := pm_iter_s hf
      have hf : tX16_module_0 x0 x1 h = some y := hf
      unfold tX16_module_0 at hf
      by_cases c1 : x1 < 0
      · have hf := pm_it hf c1
        have hf := Option.some.inj hf
        subst hf
        have hi := Option.some.inj (show some _ = some r from hi)
        subst hi
        exact K0
      · have hf := pm_ie hf c1
        obtain ⟨k2, hf⟩ := pm_if hf
        by_cases c3 : (pm_I h x0 1) < x1
        · have hf := pm_it hf c3
          have hf := Option.some.inj hf
          subst hf
          have hi := Option.some.inj (show some _ = some r from hi)
          subst hi
          exact K0
        · have hf := pm_ie hf c3
          by_cases c4 : (pm_I h x0 3) = 16
          · have hf := pm_it hf c4
            have hf := Option.some.inj hf
            subst hf
            have hi := Option.some.inj (show some _ = some r from hi)
            subst hi
            exact K0
          · have hf := pm_ie hf c4
            rcases ho5 : pm_R h x0 5 with _ | v0
            · have hf := pc_on ho5 hf
              cases hf
              exact ih.2.1 x0 x1 (pm_R h x0 10) (pm_sz h) x0 (pm_new h 14 0) (pr_new K0) Hx0 (fun _ z => pr_c K0 Hx0 z) (pr_n K0) Hx0 hi
            · have hf := pc_os ho5 hf
              obtain ⟨v6, e7, hf⟩ := pm_bd hf
              obtain ⟨v8, e9, hf⟩ := pm_bd hf
              obtain ⟨k10, hf⟩ := pm_if hf
              obtain ⟨v11, e12, hf⟩ := pm_bd hf
              have K13 := rgX14_begin (pr_sR K0 Hx0 (pr_c K0 Hx0 e7)) (pr_c (pr_sR K0 Hx0 (pr_c K0 Hx0 e7)) Hx0 e9) e12
              cases hf
              exact ih.2.2.1 x0 x1 (pm_R h x0 10) v11 K13 Hx0 (fun _ z => pr_c K0 Hx0 z) hi
    refine ⟨fun x0 x1 x2 s0 s1 h K0 Hx0 Hx2 Hs0 Hs1 hf => ?_, ?_⟩
    · obtain ⟨y, hf, hi⟩ := pm_iter_s hf
      have hf : tX16_module_40 x0 x1 x2 s0 s1 h = some y := hf
      unfold tX16_module_40 at hf
      obtain ⟨v14, e15, hf⟩ := pm_bd hf
      have K16 := rgX14_init K0 Hs0 e15
      cases hf
      exact ih.2.2.2.1 x0 x1 x2 s0 s1 v14 K16 Hx0 Hx2 Hs0 Hs1 hi
    refine ⟨fun x0 x1 x2 h K0 Hx0 Hx2 hf => ?_, ?_⟩
    · obtain ⟨y, hf, hi⟩ := pm_iter_s hf
      have hf : tX16_module_63 x0 x1 x2 h = some y := hf
      unfold tX16_module_63 at hf
      cases hf
      exact ih.2.2.2.2.1 x0 x1 x2 0 h K0 Hx0 Hx2 hi
    refine ⟨fun x0 x1 x2 s0 s1 h K0 Hx0 Hx2 Hs0 Hs1 hf => ?_, ?_⟩
    · obtain ⟨y, hf, hi⟩ := pm_iter_s hf
      have hf : tX16_module_44 x0 x1 x2 s0 s1 h = some y := hf
      unfold tX16_module_44 at hf
      obtain ⟨k17, hf⟩ := pm_if hf
      obtain ⟨k18, hf⟩ := pm_if hf
      obtain ⟨v19, e20, hf⟩ := pm_bd hf
      obtain ⟨v21, e22, hf⟩ := pm_bd hf
      obtain ⟨k23, hf⟩ := pm_if hf
      obtain ⟨v24, e25, hf⟩ := pm_bd hf
      have K26 := rgX14_begin (pr_sR (pr_sR K0 Hs1 Hs0) Hx0 (pr_c (pr_sR K0 Hs1 Hs0) Hx0 e20)) (pr_c (pr_sR (pr_sR K0 Hs1 Hs0) Hx0 (pr_c (pr_sR K0 Hs1 Hs0) Hx0 e20)) Hx0 e22) e25
      cases hf
      exact ih.2.2.1 x0 x1 x2 v24 K26 Hx0 Hx2 hi
    refine ⟨fun x0 x1 x2 x3 h K0 Hx0 Hx2 hf => ?_, ?_⟩
    · obtain ⟨y, hf, hi⟩ := pm_iter_s hf
      have hf : tX16_module_65 x0 x1 x2 x3 h = some y := hf
      unfold tX16_module_65 at hf
      by_cases c27 : x1 ≤ x3
      · have hf := pm_it hf c27
        obtain ⟨k28, hf⟩ := pm_if hf
        obtain ⟨v29, e30, hf⟩ := pm_bd hf
        rcases v29 with z32 | w31
        · have hf := pt_cl hf
          obtain ⟨k33, hf⟩ := pm_if hf
          have K34a := (show pr_F A h0 z32.2 ∧ A z32.1 from rgX16_readsAll (pr_sI (pr_sI (pr_sI (pr_sI K0 Hx0) Hx0) Hx0) Hx0) Hx0 e30)
          cases hf
          exact ih.2.2.2.2.2 x0 x2 z32.1 z32.2 K34a.1 Hx0 Hx2 K34a.2 hi
        have hf := pt_cr hf
        have K35 := (show pr_F A h0 w31 from rgX16_readsAll (pr_sI (pr_sI (pr_sI (pr_sI K0 Hx0) Hx0) Hx0) Hx0) Hx0 e30)
        obtain ⟨k36, hf⟩ := pm_if hf
        obtain ⟨v37, e38, hf⟩ := pm_bd hf
        rcases v37 with z40 | w39
        · have hf := pt_cl hf
          obtain ⟨k41, hf⟩ := pm_if hf
          have K42a := (show pr_F A h0 z40.2 ∧ A z40.1 from rgX16_checksAll K35 Hx0 e38)
          cases hf
          exact ih.2.2.2.2.2 x0 x2 z40.1 z40.2 K42a.1 Hx0 Hx2 K42a.2 hi
        have hf := pt_cr hf
        have K43 := (show pr_F A h0 w39 from rgX16_checksAll K35 Hx0 e38)
        obtain ⟨k44, hf⟩ := pm_if hf
        obtain ⟨v45, e46, hf⟩ := pm_bd hf
        obtain ⟨v47, e48, hf⟩ := pm_bd hf
        obtain ⟨k49, hf⟩ := pm_if hf
        obtain ⟨k50, hf⟩ := pm_if hf
        obtain ⟨u51, hf⟩ := pm_if hf
        obtain ⟨y52, e53, hf⟩ := pm_lt hf
        have hf := Option.some.inj hf
        subst hf
        have hi := Option.some.inj (show some _ = some r from hi)
        subst hi
        exact (pr_sO (pr_sI (pr_sO (pr_sR K43 (pr_c K43 Hx0 e46) (pr_c K43 Hx0 e48)) Hx0 (fun _ z => by cases z)) Hx0) Hx0 Hx2)
      · have hf := pm_ie hf c27
        obtain ⟨k54, hf⟩ := pm_if hf
        obtain ⟨v55, e56, hf⟩ := pm_bd hf
        obtain ⟨k57, hf⟩ := pm_if hf
        obtain ⟨v58, e59, hf⟩ := pm_bd hf
        obtain ⟨v60, e61, hf⟩ := pm_bd hf
        obtain ⟨k62, hf⟩ := pm_if hf
        obtain ⟨u63, hf⟩ := pm_if hf
        obtain ⟨y64, e65, hf⟩ := pm_lt hf
        obtain ⟨k66, hf⟩ := pm_if hf
        obtain ⟨u67, hf⟩ := pm_if hf
        obtain ⟨y68, e69, hf⟩ := pm_lt hf
        cases hf
        exact ih.2.2.2.2.1 x0 x1 x2 y68 (pm_setI h v58 x3.toNatClampNeg (vp_nar .byte y64)) (pr_sI K0 (pr_c K0 (pr_c K0 Hx0 e56) e59)) Hx0 Hx2 hi
    refine fun x0 x2 s0 h K0 Hx0 Hx2 Hs0 hf => ?_
    obtain ⟨y, hf, hi⟩ := pm_iter_s hf
    have hf : tX16_module_150 x0 x2 s0 h = some y := hf
    unfold tX16_module_150 at hf
    obtain ⟨k70, hf⟩ := pm_if hf
    have hf := Option.some.inj hf
    subst hf
    have hi := Option.some.inj (show some _ = some r from hi)
    subst hi
    exact (pr_sO K0 Hx0 Hx2)
set_option maxHeartbeats 4000000 in
set_option maxRecDepth 100000 in
theorem rgX16_module {A : Nat → Prop} {h0 h : pm_H} (K0 : pr_F A h0 h) {a0 : Nat} {p1 : Int32} (Ha0 : A a0) {r : (Int32 × pm_H)} (hf : fX16_module h a0 p1 = some r) : pr_F A h0 r.2 := by
  unfold fX16_module at hf
  obtain ⟨n, hn⟩ := pm_lim_iter hf
  exact (rlX16_module n).1 a0 p1 h K0 Ha0 hn
