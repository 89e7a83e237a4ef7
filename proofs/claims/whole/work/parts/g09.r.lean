set_option maxHeartbeats 4000000 in
set_option maxRecDepth 100000 in
theorem rgX10_constant {A : Nat → Prop} {h0 h : pm_H} (K0 : pr_F A h0 h) {a0 : Nat} {p1 : Nat} (Ha0 : A a0) (Hp1 : A p1) {r : (Int64 × pm_H)} (hf : fX10_constant h a0 p1 = some r) : pr_F A h0 r.2 := by
  unfold fX10_constant at hf
  obtain ⟨k1, hf⟩ := pm_if hf
  obtain ⟨v2, e3, hf⟩ := pm_bd hf
  obtain ⟨k4, hf⟩ := pm_if hf
  obtain ⟨v5, e6, hf⟩ := pm_bd hf
  have K7 := rgX9_instruction K0 (pr_c K0 Ha0 e3) e6
  obtain ⟨k8, hf⟩ := pm_if hf
  obtain ⟨v9, e10, hf⟩ := pm_bd hf
  obtain ⟨k11, hf⟩ := pm_if hf
  obtain ⟨y12, e13, hf⟩ := pm_lt hf
  obtain ⟨v14, e15, hf⟩ := pm_lt hf
  obtain ⟨y16, e17, hf⟩ := pm_lt hf
  obtain ⟨v18, e19, hf⟩ := pm_bd hf
  have K20 := rgX9_instruction K7 (pr_c K7 Ha0 e10) e19
  by_cases c21 : y12 = 208
  · have hf := pm_it hf c21
    cases hf
    exact K20
  · have hf := pm_ie hf c21
    by_cases c22 : y12 = 210
    · have hf := pm_it hf c22
      obtain ⟨k23, hf⟩ := pm_if hf
      obtain ⟨v24, e25, hf⟩ := pm_bd hf
      obtain ⟨v26, e27, hf⟩ := pm_bd hf
      cases hf
      exact K20
    · have hf := pm_ie hf c22
      by_cases c28 : y12 = 35
      · have hf := pm_it hf c28
        obtain ⟨k29, hf⟩ := pm_if hf
        obtain ⟨v30, e31, hf⟩ := pm_bd hf
        obtain ⟨k32, hf⟩ := pm_if hf
        obtain ⟨v33, e34, hf⟩ := pm_bd hf
        obtain ⟨v35, e36, hf⟩ := pm_bd hf
        obtain ⟨v37, e38, hf⟩ := pm_bd hf
        cases hf
        exact K20
      · have hf := pm_ie hf c28
        cases hf
        exact K20
set_option maxHeartbeats 4000000 in
set_option maxRecDepth 100000 in
theorem rlX1_constant {A : Nat → Prop} {h0 : pm_H} {r : pm_H} : ∀ n : Nat, (∀ (x0 : Nat) (x1 : Int32) (x2 : Int32) (x3 : Int32) (x4 : Int32) (x5 : Int32) (h : pm_H), pr_F A h0 h → A x0 → pm_iter sX1_constant n (.inl (x0, x1, x2, x3, x4, x5, h)) = some r → pr_F A h0 r) ∧ (∀ (x0 : Nat) (x1 : Int32) (x2 : Int32) (x3 : Int32) (x4 : Int32) (h : pm_H), pr_F A h0 h → A x0 → pm_iter sX1_constant n (.inr (.inl (x0, x1, x2, x3, x4, h))) = some r → pr_F A h0 r) ∧ (∀ (x0 : Nat) (x1 : Int32) (x2 : Int32) (x3 : Int32) (x4 : Int32) (x5 : Int32) (h : pm_H), pr_F A h0 h → A x0 → pm_iter sX1_constant n (.inr (.inr (.inl (x0, x1, x2, x3, x4, x5, h)))) = some r → pr_F A h0 r) ∧ (∀ (x0 : Nat) (x1 : Int32) (x2 : Int32) (x3 : Int32) (x4 : Int32) (x5 : Int32) (h : pm_H), pr_F A h0 h → A x0 → pm_iter sX1_constant n (.inr (.inr (.inr (x0, x1, x2, x3, x4, x5, h)))) = some r → pr_F A h0 r) := by
  intro n
  induction n with
  | zero => exact ⟨fun _ _ _ _ _ _ _ _ _ hf => (by cases hf), fun _ _ _ _ _ _ _ _ hf => (by cases hf), fun _ _ _ _ _ _ _ _ _ hf => (by cases hf), fun _ _ _ _ _ _ _ _ _ hf => (by cases hf)⟩
  | succ n ih =>
    refine ⟨fun x0 x1 x2 x3 x4 x5 h K0 Hx0 hf => ?_, ?_⟩
    · obtain ⟨y, hf, hi⟩ := pm_iter_s hf
      have hf : tX1_constant_10 x0 x1 x2 x3 x4 x5 h = some y := hf
      unfold tX1_constant_10 at hf
      obtain ⟨k1, hf⟩ := pm_if hf
      obtain ⟨v2, e3, hf⟩ := pm_bd hf
      obtain ⟨k4, hf⟩ := pm_if hf
      obtain ⟨v5, e6, hf⟩ := pm_bd hf
      obtain ⟨k7, hf⟩ := pm_if hf
      by_cases c8 : (Int32.ofNat (pm_ln h v5)) < x5
      · have hf := pm_it hf c8
        cases hf
        exact ih.2.1 x0 x1 x2 x3 x4 h K0 Hx0 hi
      · have hf := pm_ie hf c8
        by_cases c9 : (pm_I h x0 0) = 0
        · have hf := pm_it hf c9
          obtain ⟨v10, e11, hf⟩ := pm_bd hf
          obtain ⟨k12, hf⟩ := pm_if hf
          obtain ⟨v13, e14, hf⟩ := pm_bd hf
          have K15 := rgX9_instruction K0 (pr_c K0 Hx0 e11) e14
          obtain ⟨k16, hf⟩ := pm_if hf
          obtain ⟨v17, e18, hf⟩ := pm_bd hf
          obtain ⟨k19, hf⟩ := pm_if hf
          by_cases c20 : (pm_I v13 v17 6) = 11
          · have hf := pm_it hf c20
            cases hf
            exact ih.2.1 x0 x1 x2 x3 x4 v13 K15 Hx0 hi
          · have hf := pm_ie hf c20
            obtain ⟨v21, e22, hf⟩ := pm_bd hf
            by_cases c23 : v21 = 0
            · have hf := pm_it hf c23
              obtain ⟨v24, e25, hf⟩ := pm_bd hf
              have K26 := rgX1_fail K15 Hx0 e25
              cases hf
              exact ih.2.2.1 x0 x1 x2 v21 x4 x5 v24 K26 Hx0 hi
            · have hf := pm_ie hf c23
              cases hf
              exact ih.2.2.1 x0 x1 x2 v21 x4 x5 v13 K15 Hx0 hi
        · have hf := pm_ie hf c9
          cases hf
          exact ih.2.1 x0 x1 x2 x3 x4 h K0 Hx0 hi
    refine ⟨fun x0 x1 x2 x3 x4 h K0 Hx0 hf => ?_, ?_⟩
    · obtain ⟨y, hf, hi⟩ := pm_iter_s hf
      have hf : tX1_constant_145 x0 x1 x2 x3 x4 h = some y := hf
      unfold tX1_constant_145 at hf
      by_cases c27 : x4 < 0
      · have hf := pm_it hf c27
        by_cases c28 : x2 = 1
        · have hf := pm_it hf c28
          by_cases c29 : x3 = x1
          · have hf := pm_it hf c29
            cases hf
            cases hi
            exact K0
          · have hf := pm_ie hf c29
            obtain ⟨k30, hf⟩ := pm_if hf
            obtain ⟨v31, e32, hf⟩ := pm_bd hf
            have K33 := rgX1_fail K0 Hx0 e32
            cases hf
            cases hi
            exact K33
        · have hf := pm_ie hf c28
          obtain ⟨k34, hf⟩ := pm_if hf
          obtain ⟨v35, e36, hf⟩ := pm_bd hf
          have K37 := rgX1_fail K0 Hx0 e36
          cases hf
          cases hi
          exact K37
      · have hf := pm_ie hf c27
        obtain ⟨k38, hf⟩ := pm_if hf
        obtain ⟨v39, e40, hf⟩ := pm_bd hf
        have K41 := rgX1_failAt K0 Hx0 e40
        by_cases c42 : x2 = 1
        · have hf := pm_it hf c42
          by_cases c43 : x3 = x1
          · have hf := pm_it hf c43
            cases hf
            cases hi
            exact K41
          · have hf := pm_ie hf c43
            obtain ⟨k44, hf⟩ := pm_if hf
            obtain ⟨v45, e46, hf⟩ := pm_bd hf
            have K47 := rgX1_fail K41 Hx0 e46
            cases hf
            cases hi
            exact K47
        · have hf := pm_ie hf c42
          obtain ⟨k48, hf⟩ := pm_if hf
          obtain ⟨v49, e50, hf⟩ := pm_bd hf
          have K51 := rgX1_fail K41 Hx0 e50
          cases hf
          cases hi
          exact K51
    refine ⟨fun x0 x1 x2 x3 x4 x5 h K0 Hx0 hf => ?_, ?_⟩
    · obtain ⟨y, hf, hi⟩ := pm_iter_s hf
      have hf : tX1_constant_67 x0 x1 x2 x3 x4 x5 h = some y := hf
      unfold tX1_constant_67 at hf
      obtain ⟨k52, hf⟩ := pm_if hf
      obtain ⟨v53, e54, hf⟩ := pm_bd hf
      obtain ⟨k55, hf⟩ := pm_if hf
      by_cases c56 : (pm_I h v53 6) = 210
      · have hf := pm_it hf c56
        obtain ⟨v57, e58, hf⟩ := pm_bd hf
        obtain ⟨k59, hf⟩ := pm_if hf
        obtain ⟨v60, e61, hf⟩ := pm_bd hf
        by_cases c62 : v60 = 0
        · have hf := pm_it hf c62
          by_cases c63 : 0 ≤ x4
          · have hf := pm_it hf c63
            cases hf
            exact ih.2.2.2 x0 x1 x2 x3 x4 x5 h K0 Hx0 hi
          · have hf := pm_ie hf c63
            obtain ⟨y64, e65, hf⟩ := pm_lt hf
            cases hf
            exact ih.2.2.2 x0 x1 x2 x3 y64 x5 h K0 Hx0 hi
        · have hf := pm_ie hf c62
          cases hf
          exact ih.2.2.2 x0 x1 x2 x3 x4 x5 h K0 Hx0 hi
      · have hf := pm_ie hf c56
        cases hf
        exact ih.2.2.2 x0 x1 x2 x3 x4 x5 h K0 Hx0 hi
    refine fun x0 x1 x2 x3 x4 x5 h K0 Hx0 hf => ?_
    obtain ⟨y, hf, hi⟩ := pm_iter_s hf
    have hf : tX1_constant_112 x0 x1 x2 x3 x4 x5 h = some y := hf
    unfold tX1_constant_112 at hf
    obtain ⟨k66, hf⟩ := pm_if hf
    obtain ⟨v67, e68, hf⟩ := pm_bd hf
    obtain ⟨k69, hf⟩ := pm_if hf
    by_cases c70 : (pm_I h v67 6) = 210
    · have hf := pm_it hf c70
      obtain ⟨v71, e72, hf⟩ := pm_bd hf
      have K73 := rgX1_declare K0 Hx0 e72
      obtain ⟨y74, e75, hf⟩ := pm_lt hf
      obtain ⟨y76, e77, hf⟩ := pm_lt hf
      cases hf
      exact ih.1 x0 x1 y74 x3 x4 y76 v71 K73 Hx0 hi
    · have hf := pm_ie hf c70
      obtain ⟨y78, e79, hf⟩ := pm_lt hf
      obtain ⟨y80, e81, hf⟩ := pm_lt hf
      cases hf
      exact ih.1 x0 x1 y78 x3 x4 y80 h K0 Hx0 hi
set_option maxHeartbeats 4000000 in
set_option maxRecDepth 100000 in
theorem rgX1_constant {A : Nat → Prop} {h0 h : pm_H} (K0 : pr_F A h0 h) {a0 : Nat} {p1 : Int32} (Ha0 : A a0) {r : pm_H} (hf : fX1_constant h a0 p1 = some r) : pr_F A h0 r := by
  unfold fX1_constant at hf
  obtain ⟨n, hn⟩ := pm_lim_iter hf
  exact (rlX1_constant n).1 a0 p1 0 0 (-1) 0 h K0 Ha0 hn
set_option maxHeartbeats 4000000 in
set_option maxRecDepth 100000 in
theorem rlX1_dataAreRight {A : Nat → Prop} {h0 : pm_H} {r : pm_H} : ∀ n : Nat, (∀ (x0 : Nat) (x1 : Int32) (h : pm_H), pr_F A h0 h → A x0 → pm_iter sX1_dataAreRight n (x0, x1, h) = some r → pr_F A h0 r) := by
  intro n
  induction n with
  | zero => exact fun _ _ _ _ _ hf => (by cases hf)
  | succ n ih =>
    refine fun x0 x1 h K0 Hx0 hf => ?_
    obtain ⟨y, hf, hi⟩ := pm_iter_s hf
    have hf : tX1_dataAreRight_2 x0 x1 h = some y := hf
    unfold tX1_dataAreRight_2 at hf
    obtain ⟨k1, hf⟩ := pm_if hf
    obtain ⟨v2, e3, hf⟩ := pm_bd hf
    obtain ⟨k4, hf⟩ := pm_if hf
    obtain ⟨v5, e6, hf⟩ := pm_bd hf
    obtain ⟨k7, hf⟩ := pm_if hf
    by_cases c8 : (Int32.ofNat (pm_ln h v5)) ≤ x1
    · have hf := pm_it hf c8
      cases hf
      cases hi
      exact K0
    · have hf := pm_ie hf c8
      by_cases c9 : (pm_I h x0 0) = 0
      · have hf := pm_it hf c9
        obtain ⟨v10, e11, hf⟩ := pm_bd hf
        by_cases c12 : v10 = 0
        · have hf := pm_it hf c12
          obtain ⟨v13, e14, hf⟩ := pm_bd hf
          obtain ⟨v15, e16, hf⟩ := pm_bd hf
          by_cases c17 : v15 = 0
          · have hf := pm_it hf c17
            obtain ⟨v18, e19, hf⟩ := pm_bd hf
            have K20 := rgX1_failSection K0 Hx0 e19
            obtain ⟨k21, hf⟩ := pm_if hf
            obtain ⟨v22, e23, hf⟩ := pm_bd hf
            obtain ⟨v24, e25, hf⟩ := pm_bd hf
            obtain ⟨k26, hf⟩ := pm_if hf
            obtain ⟨v27, e28, hf⟩ := pm_bd hf
            obtain ⟨v29, e30, hf⟩ := pm_bd hf
            obtain ⟨k31, hf⟩ := pm_if hf
            obtain ⟨v32, e33, hf⟩ := pm_bd hf
            have K34 := rgX9_open K20 (pr_c K20 Hx0 e23) (pr_c K20 Hx0 e25) e33
            obtain ⟨k35, hf⟩ := pm_if hf
            obtain ⟨v36, e37, hf⟩ := pm_bd hf
            have K38 := rgX1_constant K34 Hx0 e37
            obtain ⟨y39, e40, hf⟩ := pm_lt hf
            cases hf
            exact ih x0 y39 v36 K38 Hx0 hi
          · have hf := pm_ie hf c17
            obtain ⟨v41, e42, hf⟩ := pm_bd hf
            obtain ⟨v43, e44, hf⟩ := pm_bd hf
            obtain ⟨k45, hf⟩ := pm_if hf
            obtain ⟨v46, e47, hf⟩ := pm_bd hf
            have K48 := rgX9_open K0 (pr_c K0 Hx0 e42) (pr_c K0 Hx0 e3) e47
            obtain ⟨k49, hf⟩ := pm_if hf
            obtain ⟨v50, e51, hf⟩ := pm_bd hf
            have K52 := rgX1_constant K48 Hx0 e51
            obtain ⟨y53, e54, hf⟩ := pm_lt hf
            cases hf
            exact ih x0 y53 v50 K52 Hx0 hi
        · have hf := pm_ie hf c12
          obtain ⟨y55, e56, hf⟩ := pm_lt hf
          cases hf
          exact ih x0 y55 h K0 Hx0 hi
      · have hf := pm_ie hf c9
        cases hf
        cases hi
        exact K0
set_option maxHeartbeats 4000000 in
set_option maxRecDepth 100000 in
theorem rgX1_dataAreRight {A : Nat → Prop} {h0 h : pm_H} (K0 : pr_F A h0 h) {a0 : Nat} (Ha0 : A a0) {r : pm_H} (hf : fX1_dataAreRight h a0 = some r) : pr_F A h0 r := by
  unfold fX1_dataAreRight at hf
  obtain ⟨n, hn⟩ := pm_lim_iter hf
  exact (rlX1_dataAreRight n) a0 0 h K0 Ha0 hn
set_option maxHeartbeats 4000000 in
set_option maxRecDepth 100000 in
theorem rlX1_elementsAreRight {A : Nat → Prop} {h0 : pm_H} {r : pm_H} : ∀ n : Nat, (∀ (x0 : Nat) (x1 : Int32) (h : pm_H), pr_F A h0 h → A x0 → pm_iter sX1_elementsAreRight n (.inl (x0, x1, h)) = some r → pr_F A h0 r) ∧ (∀ (x0 : Nat) (x1 : Int32) (x2 : Int32) (x3 : Int32) (x4 : Int32) (s0 : Int32) (h : pm_H), pr_F A h0 h → A x0 → pm_iter sX1_elementsAreRight n (.inr (.inl (x0, x1, x2, x3, x4, s0, h))) = some r → pr_F A h0 r) ∧ (∀ (x0 : Nat) (x1 : Int32) (x2 : Int32) (x3 : Int32) (x4 : Int32) (x5 : Int32) (x6 : Int32) (x7 : Int32) (h : pm_H), pr_F A h0 h → A x0 → pm_iter sX1_elementsAreRight n (.inr (.inr (.inl (x0, x1, x2, x3, x4, x5, x6, x7, h)))) = some r → pr_F A h0 r) ∧ (∀ (x0 : Nat) (x1 : Int32) (x2 : Int32) (x3 : Int32) (x4 : Int32) (x5 : Int32) (x6 : Int32) (h : pm_H), pr_F A h0 h → A x0 → pm_iter sX1_elementsAreRight n (.inr (.inr (.inr (.inl (x0, x1, x2, x3, x4, x5, x6, h))))) = some r → pr_F A h0 r) ∧ (∀ (x0 : Nat) (x1 : Int32) (x2 : Int32) (x3 : Int32) (x5 : Int32) (x6 : Int32) (h : pm_H), pr_F A h0 h → A x0 → pm_iter sX1_elementsAreRight n (.inr (.inr (.inr (.inr (.inl (x0, x1, x2, x3, x5, x6, h)))))) = some r → pr_F A h0 r) ∧ (∀ (x0 : Nat) (x1 : Int32) (x2 : Int32) (x3 : Int32) (x5 : Int32) (x7 : Int32) (h : pm_H), pr_F A h0 h → A x0 → pm_iter sX1_elementsAreRight n (.inr (.inr (.inr (.inr (.inr (x0, x1, x2, x3, x5, x7, h)))))) = some r → pr_F A h0 r) := by
  intro n
  induction n with
  | zero => exact ⟨fun _ _ _ _ _ hf => (by cases hf), fun _ _ _ _ _ _ _ _ _ hf => (by cases hf), fun _ _ _ _ _ _ _ _ _ _ _ hf => (by cases hf), fun _ _ _ _ _ _ _ _ _ _ hf => (by cases hf), fun _ _ _ _ _ _ _ _ _ hf => (by cases hf), fun _ _ _ _ _ _ _ _ _ hf => (by cases hf)⟩
  | succ n ih =>
    refine ⟨fun x0 x1 h K0 Hx0 hf => ?_, ?_⟩
    · obtain ⟨y, hf, hi⟩ := pm_iter_s hf
      have hf : tX1_elementsAreRight_2 x0 x1 h = some y := hf
      unfold tX1_elementsAreRight_2 at hf
      obtain ⟨k1, hf⟩ := pm_if hf
      obtain ⟨v2, e3, hf⟩ := pm_bd hf
      obtain ⟨k4, hf⟩ := pm_if hf
      obtain ⟨v5, e6, hf⟩ := pm_bd hf
      obtain ⟨k7, hf⟩ := pm_if hf
      by_cases c8 : (Int32.ofNat (pm_ln h v5)) ≤ x1
      · have hf := pm_it hf c8
        cases hf
        cases hi
        exact K0
      · have hf := pm_ie hf c8
        by_cases c9 : (pm_I h x0 0) = 0
        · have hf := pm_it hf c9
          obtain ⟨v10, e11, hf⟩ := pm_bd hf
          obtain ⟨v12, e13, hf⟩ := pm_bd hf
          obtain ⟨v14, e15, hf⟩ := pm_bd hf
          obtain ⟨v16, e17, hf⟩ := pm_bd hf
          by_cases c18 : v16 = 0
          · have hf := pm_it hf c18
            cases hf
            exact ih.2.1 x0 x1 v10 v12 v14 0 h K0 Hx0 hi
          · have hf := pm_ie hf c18
            cases hf
            exact ih.2.1 x0 x1 v10 v12 v14 1 h K0 Hx0 hi
        · have hf := pm_ie hf c9
          cases hf
          cases hi
          exact K0
    refine ⟨fun x0 x1 x2 x3 x4 s0 h K0 Hx0 hf => ?_, ?_⟩
    · obtain ⟨y, hf, hi⟩ := pm_iter_s hf
      have hf : tX1_elementsAreRight_86 x0 x1 x2 x3 x4 s0 h = some y := hf
      unfold tX1_elementsAreRight_86 at hf
      obtain ⟨k19, hf⟩ := pm_if hf
      obtain ⟨v20, e21, hf⟩ := pm_bd hf
      obtain ⟨k22, hf⟩ := pm_if hf
      obtain ⟨v23, e24, hf⟩ := pm_bd hf
      obtain ⟨v25, e26, hf⟩ := pm_bd hf
      by_cases c27 : v25 = 0
      · have hf := pm_it hf c27
        obtain ⟨v28, e29, hf⟩ := pm_bd hf
        obtain ⟨v30, e31, hf⟩ := pm_bd hf
        obtain ⟨k32, hf⟩ := pm_if hf
        obtain ⟨v33, e34, hf⟩ := pm_bd hf
        have K35 := rgX9_open K0 (pr_c K0 Hx0 e29) (pr_c K0 Hx0 e21) e34
        cases hf
        exact ih.2.2.1 x0 x1 x2 x3 x4 s0 1 0 v33 K35 Hx0 hi
      · have hf := pm_ie hf c27
        obtain ⟨v36, e37, hf⟩ := pm_bd hf
        obtain ⟨v38, e39, hf⟩ := pm_bd hf
        obtain ⟨k40, hf⟩ := pm_if hf
        obtain ⟨v41, e42, hf⟩ := pm_bd hf
        have K43 := rgX9_open K0 (pr_c K0 Hx0 e37) (pr_c K0 Hx0 e21) e42
        cases hf
        exact ih.2.2.1 x0 x1 x2 x3 x4 s0 0 0 v41 K43 Hx0 hi
    refine ⟨fun x0 x1 x2 x3 x4 x5 x6 x7 h K0 Hx0 hf => ?_, ?_⟩
    · obtain ⟨y, hf, hi⟩ := pm_iter_s hf
      have hf : tX1_elementsAreRight_138 x0 x1 x2 x3 x4 x5 x6 x7 h = some y := hf
      unfold tX1_elementsAreRight_138 at hf
      by_cases c44 : x2 ≤ x7
      · have hf := pm_it hf c44
        cases hf
        exact ih.2.2.2.1 x0 x1 x2 x3 x4 x5 x6 h K0 Hx0 hi
      · have hf := pm_ie hf c44
        by_cases c45 : x5 = 0
        · have hf := pm_it hf c45
          obtain ⟨k46, hf⟩ := pm_if hf
          obtain ⟨v47, e48, hf⟩ := pm_bd hf
          obtain ⟨k49, hf⟩ := pm_if hf
          obtain ⟨v50, e51, hf⟩ := pm_bd hf
          have K52 := rgX9_number K0 (pr_c K0 Hx0 e48) e51
          obtain ⟨k53, hf⟩ := pm_if hf
          obtain ⟨v54, e55, hf⟩ := pm_bd hf
          obtain ⟨k56, hf⟩ := pm_if hf
          obtain ⟨v57, e58, hf⟩ := pm_bd hf
          by_cases c59 : v57 = 0
          · have hf := pm_it hf c59
            obtain ⟨v60, e61, hf⟩ := pm_bd hf
            have K62 := rgX1_failSection K52 Hx0 e61
            obtain ⟨k63, hf⟩ := pm_if hf
            obtain ⟨v64, e65, hf⟩ := pm_bd hf
            have K66 := rgX1_declare K62 Hx0 e65
            obtain ⟨y67, e68, hf⟩ := pm_lt hf
            cases hf
            exact ih.2.2.1 x0 x1 x2 x3 x4 x5 x6 y67 v64 K66 Hx0 hi
          · have hf := pm_ie hf c59
            obtain ⟨v69, e70, hf⟩ := pm_bd hf
            have K71 := rgX1_declare K52 Hx0 e70
            obtain ⟨y72, e73, hf⟩ := pm_lt hf
            cases hf
            exact ih.2.2.1 x0 x1 x2 x3 x4 x5 x6 y72 v69 K71 Hx0 hi
        · have hf := pm_ie hf c45
          cases hf
          exact ih.2.2.2.1 x0 x1 x2 x3 x4 x5 x6 h K0 Hx0 hi
    refine ⟨fun x0 x1 x2 x3 x4 x5 x6 h K0 Hx0 hf => ?_, ?_⟩
    · obtain ⟨y, hf, hi⟩ := pm_iter_s hf
      have hf : tX1_elementsAreRight_193 x0 x1 x2 x3 x4 x5 x6 h = some y := hf
      unfold tX1_elementsAreRight_193 at hf
      by_cases c74 : x6 = 0
      · have hf := pm_it hf c74
        cases hf
        exact ih.2.2.2.2.1 x0 x1 x2 x3 x5 x6 h K0 Hx0 hi
      · have hf := pm_ie hf c74
        obtain ⟨k75, hf⟩ := pm_if hf
        obtain ⟨v76, e77, hf⟩ := pm_bd hf
        obtain ⟨k78, hf⟩ := pm_if hf
        obtain ⟨v79, e80, hf⟩ := pm_bd hf
        by_cases c81 : v79 = 0
        · have hf := pm_it hf c81
          obtain ⟨v82, e83, hf⟩ := pm_bd hf
          have K84 := rgX1_failSection K0 Hx0 e83
          cases hf
          exact ih.2.2.2.2.1 x0 x1 x2 x3 x5 x6 v82 K84 Hx0 hi
        · have hf := pm_ie hf c81
          obtain ⟨v85, e86, hf⟩ := pm_bd hf
          by_cases c87 : v85 = x3.toInt64
          · have hf := pm_it hf c87
            cases hf
            exact ih.2.2.2.2.1 x0 x1 x2 x3 x5 x6 h K0 Hx0 hi
          · have hf := pm_ie hf c87
            obtain ⟨v88, e89, hf⟩ := pm_bd hf
            have K90 := rgX1_failSection K0 Hx0 e89
            cases hf
            exact ih.2.2.2.2.1 x0 x1 x2 x3 x5 x6 v88 K90 Hx0 hi
    refine ⟨fun x0 x1 x2 x3 x5 x6 h K0 Hx0 hf => ?_, ?_⟩
    · obtain ⟨y, hf, hi⟩ := pm_iter_s hf
      have hf : tX1_elementsAreRight_237 x0 x1 x2 x3 x5 x6 h = some y := hf
      unfold tX1_elementsAreRight_237 at hf
      obtain ⟨k91, hf⟩ := pm_if hf
      obtain ⟨v92, e93, hf⟩ := pm_bd hf
      obtain ⟨v94, e95, hf⟩ := pm_bd hf
      obtain ⟨k96, hf⟩ := pm_if hf
      obtain ⟨v97, e98, hf⟩ := pm_bd hf
      obtain ⟨v99, e100, hf⟩ := pm_bd hf
      obtain ⟨k101, hf⟩ := pm_if hf
      obtain ⟨v102, e103, hf⟩ := pm_bd hf
      have K104 := rgX9_open K0 (pr_c K0 Hx0 e93) (pr_c K0 Hx0 e95) e103
      by_cases c105 : x6 = 0
      · have hf := pm_it hf c105
        obtain ⟨k106, hf⟩ := pm_if hf
        obtain ⟨v107, e108, hf⟩ := pm_bd hf
        obtain ⟨v109, e110, hf⟩ := pm_bd hf
        obtain ⟨k111, hf⟩ := pm_if hf
        obtain ⟨v112, e113, hf⟩ := pm_bd hf
        obtain ⟨v114, e115, hf⟩ := pm_bd hf
        obtain ⟨k116, hf⟩ := pm_if hf
        obtain ⟨v117, e118, hf⟩ := pm_bd hf
        have K119 := rgX9_open K104 (pr_c K104 Hx0 e108) (pr_c K104 Hx0 e110) e118
        cases hf
        exact ih.2.2.2.2.2 x0 x1 x2 x3 x5 0 v117 K119 Hx0 hi
      · have hf := pm_ie hf c105
        obtain ⟨k120, hf⟩ := pm_if hf
        obtain ⟨v121, e122, hf⟩ := pm_bd hf
        have K123 := rgX1_constant K104 Hx0 e122
        obtain ⟨k124, hf⟩ := pm_if hf
        obtain ⟨v125, e126, hf⟩ := pm_bd hf
        obtain ⟨v127, e128, hf⟩ := pm_bd hf
        obtain ⟨k129, hf⟩ := pm_if hf
        obtain ⟨v130, e131, hf⟩ := pm_bd hf
        obtain ⟨v132, e133, hf⟩ := pm_bd hf
        obtain ⟨k134, hf⟩ := pm_if hf
        obtain ⟨v135, e136, hf⟩ := pm_bd hf
        have K137 := rgX9_open K123 (pr_c K123 Hx0 e126) (pr_c K123 Hx0 e128) e136
        cases hf
        exact ih.2.2.2.2.2 x0 x1 x2 x3 x5 0 v135 K137 Hx0 hi
    refine fun x0 x1 x2 x3 x5 x7 h K0 Hx0 hf => ?_
    obtain ⟨y, hf, hi⟩ := pm_iter_s hf
    have hf : tX1_elementsAreRight_299 x0 x1 x2 x3 x5 x7 h = some y := hf
    unfold tX1_elementsAreRight_299 at hf
    by_cases c138 : x2 ≤ x7
    · have hf := pm_it hf c138
      obtain ⟨y139, e140, hf⟩ := pm_lt hf
      cases hf
      exact ih.1 x0 y139 h K0 Hx0 hi
    · have hf := pm_ie hf c138
      by_cases c141 : x5 = 0
      · have hf := pm_it hf c141
        obtain ⟨y142, e143, hf⟩ := pm_lt hf
        cases hf
        exact ih.1 x0 y142 h K0 Hx0 hi
      · have hf := pm_ie hf c141
        obtain ⟨k144, hf⟩ := pm_if hf
        by_cases c145 : (pm_I h x0 0) = 0
        · have hf := pm_it hf c145
          obtain ⟨v146, e147, hf⟩ := pm_bd hf
          have K148 := rgX1_constant K0 Hx0 e147
          obtain ⟨y149, e150, hf⟩ := pm_lt hf
          cases hf
          exact ih.2.2.2.2.2 x0 x1 x2 x3 x5 y149 v146 K148 Hx0 hi
        · have hf := pm_ie hf c145
          obtain ⟨y151, e152, hf⟩ := pm_lt hf
          cases hf
          exact ih.1 x0 y151 h K0 Hx0 hi
set_option maxHeartbeats 4000000 in
set_option maxRecDepth 100000 in
theorem rgX1_elementsAreRight {A : Nat → Prop} {h0 h : pm_H} (K0 : pr_F A h0 h) {a0 : Nat} (Ha0 : A a0) {r : pm_H} (hf : fX1_elementsAreRight h a0 = some r) : pr_F A h0 r := by
  unfold fX1_elementsAreRight at hf
  obtain ⟨n, hn⟩ := pm_lim_iter hf
  exact (rlX1_elementsAreRight n).1 a0 0 h K0 Ha0 hn
set_option maxHeartbeats 4000000 in
set_option maxRecDepth 100000 in
theorem rlX1_globalsAreRight {A : Nat → Prop} {h0 : pm_H} {r : pm_H} : ∀ n : Nat, (∀ (x0 : Nat) (x1 : Int32) (h : pm_H), pr_F A h0 h → A x0 → pm_iter sX1_globalsAreRight n (x0, x1, h) = some r → pr_F A h0 r) := by
  intro n
  induction n with
  | zero => exact fun _ _ _ _ _ hf => (by cases hf)
  | succ n ih =>
    refine fun x0 x1 h K0 Hx0 hf => ?_
    obtain ⟨y, hf, hi⟩ := pm_iter_s hf
    have hf : tX1_globalsAreRight_9 x0 x1 h = some y := hf
    unfold tX1_globalsAreRight_9 at hf
    obtain ⟨k7, hf⟩ := pm_if hf
    obtain ⟨v8, e9, hf⟩ := pm_bd hf
    obtain ⟨k10, hf⟩ := pm_if hf
    obtain ⟨v11, e12, hf⟩ := pm_bd hf
    by_cases c13 : v11 ≤ x1
    · have hf := pm_it hf c13
      cases hf
      cases hi
      exact K0
    · have hf := pm_ie hf c13
      by_cases c14 : (pm_I h x0 0) = 0
      · have hf := pm_it hf c14
        obtain ⟨v15, e16, hf⟩ := pm_bd hf
        obtain ⟨v17, e18, hf⟩ := pm_bd hf
        obtain ⟨k19, hf⟩ := pm_if hf
        obtain ⟨v20, e21, hf⟩ := pm_bd hf
        have K22 := rgX9_open K0 (pr_c K0 Hx0 e16) (pr_c K0 Hx0 e9) e21
        obtain ⟨k23, hf⟩ := pm_if hf
        obtain ⟨v24, e25, hf⟩ := pm_bd hf
        obtain ⟨k26, hf⟩ := pm_if hf
        obtain ⟨v27, e28, hf⟩ := pm_bd hf
        obtain ⟨v29, e30, hf⟩ := pm_bd hf
        have K31 := rgX1_constant K22 Hx0 e30
        obtain ⟨y32, e33, hf⟩ := pm_lt hf
        cases hf
        exact ih x0 y32 v29 K31 Hx0 hi
      · have hf := pm_ie hf c14
        cases hf
        cases hi
        exact K0
set_option maxHeartbeats 4000000 in
set_option maxRecDepth 100000 in
theorem rgX1_globalsAreRight {A : Nat → Prop} {h0 h : pm_H} (K0 : pr_F A h0 h) {a0 : Nat} (Ha0 : A a0) {r : pm_H} (hf : fX1_globalsAreRight h a0 = some r) : pr_F A h0 r := by
  unfold fX1_globalsAreRight at hf
  obtain ⟨k1, hf⟩ := pm_if hf
  obtain ⟨v2, e3, hf⟩ := pm_bd hf
  obtain ⟨k4, hf⟩ := pm_if hf
  obtain ⟨v5, e6, hf⟩ := pm_bd hf
  obtain ⟨n, hn⟩ := pm_lim_iter hf
  exact (rlX1_globalsAreRight n) a0 v5 h K0 Ha0 hn
set_option maxHeartbeats 4000000 in
set_option maxRecDepth 100000 in
theorem rlX9_expression {A : Nat → Prop} {h0 : pm_H} {r : pm_H} : ∀ n : Nat, (∀ (x0 : Nat) (x1 : Int32) (x2 : Int32) (h : pm_H), pr_F A h0 h → A x0 → pm_iter sX9_expression n (.inl (x0, x1, x2, h)) = some r → pr_F A h0 r) ∧ (∀ (x0 : Nat) (x1 : Int32) (x2 : Int32) (h : pm_H), pr_F A h0 h → A x0 → pm_iter sX9_expression n (.inr (.inl (x0, x1, x2, h))) = some r → pr_F A h0 r) ∧ (∀ (x0 : Nat) (x1 : Int32) (x2 : Int32) (h : pm_H), pr_F A h0 h → A x0 → pm_iter sX9_expression n (.inr (.inr (x0, x1, x2, h))) = some r → pr_F A h0 r) := by
  intro n
  induction n with
  | zero => exact ⟨fun _ _ _ _ _ _ hf => (by cases hf), fun _ _ _ _ _ _ hf => (by cases hf), fun _ _ _ _ _ _ hf => (by cases hf)⟩
  | succ n ih =>
    refine ⟨fun x0 x1 x2 h K0 Hx0 hf => ?_, ?_⟩
    · obtain ⟨y, hf, hi⟩ := pm_iter_s hf
      have hf : tX9_expression_11 x0 x1 x2 h = some y := hf
      unfold tX9_expression_11 at hf
      obtain ⟨k6, hf⟩ := pm_if hf
      obtain ⟨v7, e8, hf⟩ := pm_bd hf
      obtain ⟨k9, hf⟩ := pm_if hf
      obtain ⟨v10, e11, hf⟩ := pm_bd hf
      obtain ⟨k12, hf⟩ := pm_if hf
      by_cases c13 : (Int32.ofNat (pm_ln h v10)) < x2
      · have hf := pm_it hf c13
        cases hf
        cases hi
        exact K0
      · have hf := pm_ie hf c13
        by_cases c14 : x1 < 0
        · have hf := pm_it hf c14
          cases hf
          cases hi
          exact K0
        · have hf := pm_ie hf c14
          by_cases c15 : (pm_I h x0 3) = 0
          · have hf := pm_it hf c15
            obtain ⟨v16, e17, hf⟩ := pm_bd hf
            have K18 := rgX9_instruction K0 Hx0 e17
            obtain ⟨k19, hf⟩ := pm_if hf
            by_cases c20 : (pm_I v16 x0 6) = 11
            · have hf := pm_it hf c20
              obtain ⟨y21, e22, hf⟩ := pm_lt hf
              cases hf
              exact ih.2.1 x0 y21 x2 v16 K18 Hx0 hi
            · have hf := pm_ie hf c20
              cases hf
              exact ih.2.1 x0 x1 x2 v16 K18 Hx0 hi
          · have hf := pm_ie hf c15
            cases hf
            cases hi
            exact K0
    refine ⟨fun x0 x1 x2 h K0 Hx0 hf => ?_, ?_⟩
    · obtain ⟨y, hf, hi⟩ := pm_iter_s hf
      have hf : tX9_expression_50 x0 x1 x2 h = some y := hf
      unfold tX9_expression_50 at hf
      obtain ⟨k23, hf⟩ := pm_if hf
      by_cases c24 : (pm_I h x0 6) = 5
      · have hf := pm_it hf c24
        by_cases c25 : x1 < 0
        · have hf := pm_it hf c25
          cases hf
          exact ih.2.2 x0 x1 x2 h K0 Hx0 hi
        · have hf := pm_ie hf c25
          obtain ⟨v26, e27, hf⟩ := pm_bd hf
          obtain ⟨k28, hf⟩ := pm_if hf
          by_cases c29 : (Int32.ofNat (pm_ln h v26)) ≤ x1
          · have hf := pm_it hf c29
            cases hf
            exact ih.2.2 x0 x1 x2 h K0 Hx0 hi
          · have hf := pm_ie hf c29
            obtain ⟨u30, hf⟩ := pm_if hf
            by_cases c31 : (pm_I h v26 x1.toNatClampNeg) = 0
            · have hf := pm_it hf c31
              obtain ⟨v32, e33, hf⟩ := pm_bd hf
              have K34 := rgX9_fail K0 Hx0 e33
              obtain ⟨k35, hf⟩ := pm_if hf
              obtain ⟨v36, e37, hf⟩ := pm_bd hf
              obtain ⟨k38, hf⟩ := pm_if hf
              obtain ⟨u39, hf⟩ := pm_if hf
              cases hf
              exact ih.2.2 x0 x1 x2 (pm_setI v32 v36 x1.toNatClampNeg (vp_nar .boolean 0)) (pr_sI K34 (pr_c K34 Hx0 e37)) Hx0 hi
            · have hf := pm_ie hf c31
              obtain ⟨u40, hf⟩ := pm_if hf
              cases hf
              exact ih.2.2 x0 x1 x2 (pm_setI h v26 x1.toNatClampNeg (vp_nar .boolean 0)) (pr_sI K0 (pr_c K0 Hx0 e27)) Hx0 hi
      · have hf := pm_ie hf c24
        cases hf
        exact ih.2.2 x0 x1 x2 h K0 Hx0 hi
    refine fun x0 x1 x2 h K0 Hx0 hf => ?_
    obtain ⟨y, hf, hi⟩ := pm_iter_s hf
    have hf : tX9_expression_97 x0 x1 x2 h = some y := hf
    unfold tX9_expression_97 at hf
    obtain ⟨k41, hf⟩ := pm_if hf
    by_cases c42 : (pm_I h x0 6) < 2
    · have hf := pm_it hf c42
      obtain ⟨y43, e44, hf⟩ := pm_lt hf
      cases hf
      exact ih.1 x0 x1 y43 h K0 Hx0 hi
    · have hf := pm_ie hf c42
      by_cases c45 : 4 < (pm_I h x0 6)
      · have hf := pm_it hf c45
        obtain ⟨y46, e47, hf⟩ := pm_lt hf
        cases hf
        exact ih.1 x0 x1 y46 h K0 Hx0 hi
      · have hf := pm_ie hf c45
        by_cases c48 : (pm_I h x0 3) = 0
        · have hf := pm_it hf c48
          obtain ⟨y49, e50, hf⟩ := pm_lt hf
          obtain ⟨v51, e52, hf⟩ := pm_bd hf
          obtain ⟨k53, hf⟩ := pm_if hf
          by_cases c54 : (Int32.ofNat (pm_ln h v51)) ≤ y49
          · have hf := pm_it hf c54
            obtain ⟨y55, e56, hf⟩ := pm_lt hf
            cases hf
            exact ih.1 x0 y49 y55 h K0 Hx0 hi
          · have hf := pm_ie hf c54
            by_cases c57 : (pm_I h x0 6) = 4
            · have hf := pm_it hf c57
              obtain ⟨u58, hf⟩ := pm_if hf
              obtain ⟨y59, e60, hf⟩ := pm_lt hf
              cases hf
              exact ih.1 x0 y49 y59 (pm_setI h v51 y49.toNatClampNeg (vp_nar .boolean 1)) (pr_sI K0 (pr_c K0 Hx0 e52)) Hx0 hi
            · have hf := pm_ie hf c57
              obtain ⟨u61, hf⟩ := pm_if hf
              obtain ⟨y62, e63, hf⟩ := pm_lt hf
              cases hf
              exact ih.1 x0 y49 y62 (pm_setI h v51 y49.toNatClampNeg (vp_nar .boolean 0)) (pr_sI K0 (pr_c K0 Hx0 e52)) Hx0 hi
        · have hf := pm_ie hf c48
          obtain ⟨y64, e65, hf⟩ := pm_lt hf
          cases hf
          exact ih.1 x0 x1 y64 h K0 Hx0 hi
set_option maxHeartbeats 4000000 in
set_option maxRecDepth 100000 in
theorem rgX9_expression {A : Nat → Prop} {h0 h : pm_H} (K0 : pr_F A h0 h) {a0 : Nat} (Ha0 : A a0) {r : pm_H} (hf : fX9_expression h a0 = some r) : pr_F A h0 r := by
  unfold fX9_expression at hf
  obtain ⟨k1, hf⟩ := pm_if hf
  obtain ⟨v2, e3, hf⟩ := pm_bd hf
  obtain ⟨k4, hf⟩ := pm_if hf
  obtain ⟨u5, hf⟩ := pm_if hf
  obtain ⟨n, hn⟩ := pm_lim_iter hf
  exact (rlX9_expression n).1 a0 0 0 (pm_setI h v2 ((0 : Int32).toNatClampNeg) (vp_nar .boolean 0)) (pr_sI K0 (pr_c K0 Ha0 e3)) Ha0 hn
set_option maxHeartbeats 4000000 in
set_option maxRecDepth 100000 in
theorem rgX9_own {A : Nat → Prop} {h0 h : pm_H} (K0 : pr_F A h0 h) {a0 : Nat} {p1 : Int32} (Ha0 : A a0) {r : pm_H} (hf : fX9_own h a0 p1 = some r) : pr_F A h0 r := by
  unfold fX9_own at hf
  obtain ⟨k1, hf⟩ := pm_if hf
  obtain ⟨y2, e3, hf⟩ := pm_lt hf
  obtain ⟨v4, e5, hf⟩ := pm_bd hf
  obtain ⟨k6, hf⟩ := pm_if hf
  obtain ⟨v7, e8, hf⟩ := pm_bd hf
  have K9 := rgX7_space K0 (pr_c K0 Ha0 e5) e8
  obtain ⟨v10, e11, hf⟩ := pm_bd hf
  have K12 := rgX9_describe K0 Ha0 K9 e11
  by_cases c13 : p1 = 3
  · have hf := pm_it hf c13
    obtain ⟨k14, hf⟩ := pm_if hf
    obtain ⟨v15, e16, hf⟩ := pm_bd hf
    obtain ⟨k17, hf⟩ := pm_if hf
    obtain ⟨v18, e19, hf⟩ := pm_bd hf
    obtain ⟨v20, e21, hf⟩ := pm_bd hf
    have K22 := rgX12_setItem_ K12 (pr_c K12 (pr_c K12 Ha0 e16) e19) e21
    obtain ⟨k23, hf⟩ := pm_if hf
    obtain ⟨v24, e25, hf⟩ := pm_bd hf
    have K26 := rgX9_expression K22 Ha0 e25
    cases hf
    exact K26
  · have hf := pm_ie hf c13
    cases hf
    exact K12
set_option maxHeartbeats 4000000 in
set_option maxRecDepth 100000 in
theorem rgX10_addGlobal {A : Nat → Prop} {h0 h : pm_H} (K0 : pr_F A h0 h) {a0 : Nat} {p1 : Nat} {p2 : Int32} (Ha0 : A a0) (Hp1 : A p1) {r : (Int32 × pm_H)} (hf : fX10_addGlobal h a0 p1 p2 = some r) : pr_F A h0 r.2 := by
  unfold fX10_addGlobal at hf
  obtain ⟨k1, hf⟩ := pm_if hf
  obtain ⟨y2, e3, hf⟩ := pm_lt hf
  by_cases c4 : y2 < 256
  · have hf := pm_it hf c4
    obtain ⟨v5, e6, hf⟩ := pm_bd hf
    obtain ⟨k7, hf⟩ := pm_if hf
    obtain ⟨v8, e9, hf⟩ := pm_bd hf
    obtain ⟨k10, hf⟩ := pm_if hf
    obtain ⟨v11, e12, hf⟩ := pm_bd hf
    obtain ⟨k13, hf⟩ := pm_if hf
    obtain ⟨u14, hf⟩ := pm_if hf
    obtain ⟨v15, e16, hf⟩ := pm_bd hf
    obtain ⟨v17, e18, hf⟩ := pm_bd hf
    by_cases c19 : v17 = 1
    · have hf := pm_it hf c19
      obtain ⟨k20, hf⟩ := pm_if hf
      obtain ⟨u21, hf⟩ := pm_if hf
      obtain ⟨v22, e23, hf⟩ := pm_bd hf
      obtain ⟨v24, e25, hf⟩ := pm_bd hf
      obtain ⟨k26, hf⟩ := pm_if hf
      obtain ⟨v27, e28, hf⟩ := pm_bd hf
      have K29 := rgX9_open (pr_sI (pr_sI K0 (pr_c K0 Ha0 e6)) (pr_c (pr_sI K0 (pr_c K0 Ha0 e6)) Ha0 e16)) (pr_c (pr_sI (pr_sI K0 (pr_c K0 Ha0 e6)) (pr_c (pr_sI K0 (pr_c K0 Ha0 e6)) Ha0 e16)) Ha0 e23) (pr_c K0 Hp1 e9) e28
      obtain ⟨k30, hf⟩ := pm_if hf
      obtain ⟨v31, e32, hf⟩ := pm_bd hf
      obtain ⟨v33, e34, hf⟩ := pm_bd hf
      have K35 := rgX10_constant K29 Ha0 Hp1 e34
      obtain ⟨k36, hf⟩ := pm_if hf
      obtain ⟨u37, hf⟩ := pm_if hf
      obtain ⟨k38, hf⟩ := pm_if hf
      obtain ⟨y39, e40, hf⟩ := pm_lt hf
      cases hf
      exact (pr_sI (pr_sL K35 (pr_c K29 Ha0 e32)) Ha0)
    · have hf := pm_ie hf c19
      obtain ⟨k41, hf⟩ := pm_if hf
      obtain ⟨u42, hf⟩ := pm_if hf
      obtain ⟨v43, e44, hf⟩ := pm_bd hf
      obtain ⟨v45, e46, hf⟩ := pm_bd hf
      obtain ⟨k47, hf⟩ := pm_if hf
      obtain ⟨v48, e49, hf⟩ := pm_bd hf
      have K50 := rgX9_open (pr_sI (pr_sI K0 (pr_c K0 Ha0 e6)) (pr_c (pr_sI K0 (pr_c K0 Ha0 e6)) Ha0 e16)) (pr_c (pr_sI (pr_sI K0 (pr_c K0 Ha0 e6)) (pr_c (pr_sI K0 (pr_c K0 Ha0 e6)) Ha0 e16)) Ha0 e44) (pr_c K0 Hp1 e9) e49
      obtain ⟨k51, hf⟩ := pm_if hf
      obtain ⟨v52, e53, hf⟩ := pm_bd hf
      obtain ⟨v54, e55, hf⟩ := pm_bd hf
      have K56 := rgX10_constant K50 Ha0 Hp1 e55
      obtain ⟨k57, hf⟩ := pm_if hf
      obtain ⟨u58, hf⟩ := pm_if hf
      obtain ⟨k59, hf⟩ := pm_if hf
      obtain ⟨y60, e61, hf⟩ := pm_lt hf
      cases hf
      exact (pr_sI (pr_sL K56 (pr_c K50 Ha0 e53)) Ha0)
  · have hf := pm_ie hf c4
    cases hf
    exact K0
set_option maxHeartbeats 4000000 in
set_option maxRecDepth 100000 in
theorem rlX9_body {A : Nat → Prop} {h0 : pm_H} {r : pm_H} : ∀ n : Nat, (∀ (x0 : Nat) (x2 : Int64) (h : pm_H), pr_F A h0 h → A x0 → pm_iter sX9_body n (.inl (x0, x2, h)) = some r → pr_F A h0 r) ∧ (∀ (x0 : Nat) (x4 : Int32) (x5 : Int32) (x6 : Int64) (x8 : Int64) (x10 : Int64) (h : pm_H), pr_F A h0 h → A x0 → pm_iter sX9_body n (.inr (.inl (x0, x4, x5, x6, x8, x10, h))) = some r → pr_F A h0 r) ∧ (∀ (x0 : Nat) (x4 : Int32) (x5 : Int32) (x8 : Int64) (h : pm_H), pr_F A h0 h → A x0 → pm_iter sX9_body n (.inr (.inr (.inl (x0, x4, x5, x8, h)))) = some r → pr_F A h0 r) ∧ (∀ (x0 : Nat) (x4 : Int32) (x8 : Int64) (h : pm_H), pr_F A h0 h → A x0 → pm_iter sX9_body n (.inr (.inr (.inr (x0, x4, x8, h)))) = some r → pr_F A h0 r) := by
  intro n
  induction n with
  | zero => exact ⟨fun _ _ _ _ _ hf => (by cases hf), fun _ _ _ _ _ _ _ _ _ hf => (by cases hf), fun _ _ _ _ _ _ _ hf => (by cases hf), fun _ _ _ _ _ _ hf => (by cases hf)⟩
  | succ n ih =>
    refine ⟨fun x0 x2 h K0 Hx0 hf => ?_, ?_⟩
    · obtain ⟨y, hf, hi⟩ := pm_iter_s hf
      have hf : tX9_body_33 x0 x2 h = some y := hf
      unfold tX9_body_33 at hf
      obtain ⟨k12, hf⟩ := pm_if hf
      by_cases c13 : (pm_I h x0 3) = 0
      · have hf := pm_it hf c13
        obtain ⟨y14, e15, hf⟩ := pm_lt hf
        obtain ⟨y16, e17, hf⟩ := pm_lt hf
        obtain ⟨y18, e19, hf⟩ := pm_lt hf
        obtain ⟨v20, e21, hf⟩ := pm_bd hf
        obtain ⟨k22, hf⟩ := pm_if hf
        obtain ⟨v23, e24, hf⟩ := pm_bd hf
        obtain ⟨v25, e26, hf⟩ := pm_bd hf
        have K27 := rgX12_setItem (pr_sI K0 Hx0) (pr_c (pr_sI K0 Hx0) (pr_c (pr_sI K0 Hx0) Hx0 e21) e24) e26
        obtain ⟨k28, hf⟩ := pm_if hf
        obtain ⟨v29, e30, hf⟩ := pm_bd hf
        obtain ⟨k31, hf⟩ := pm_if hf
        obtain ⟨v32, e33, hf⟩ := pm_bd hf
        obtain ⟨v34, e35, hf⟩ := pm_bd hf
        have K36 := rgX12_setItem K27 (pr_c K27 (pr_c K27 Hx0 e30) e33) e35
        obtain ⟨k37, hf⟩ := pm_if hf
        obtain ⟨v38, e39, hf⟩ := pm_bd hf
        have K40 := rgX9_number K36 Hx0 e39
        cases hf
        exact ih.2.1 x0 y14 y16 v38.1 0 0 v38.2 K40 Hx0 hi
      · have hf := pm_ie hf c13
        cases hf
        cases hi
        exact K0
    refine ⟨fun x0 x4 x5 x6 x8 x10 h K0 Hx0 hf => ?_, ?_⟩
    · obtain ⟨y, hf, hi⟩ := pm_iter_s hf
      have hf : tX9_body_118 x0 x4 x5 x6 x8 x10 h = some y := hf
      unfold tX9_body_118 at hf
      by_cases c41 : x6 ≤ x10
      · have hf := pm_it hf c41
        cases hf
        exact ih.2.2.1 x0 x4 x5 x8 h K0 Hx0 hi
      · have hf := pm_ie hf c41
        obtain ⟨k42, hf⟩ := pm_if hf
        by_cases c43 : (pm_I h x0 3) = 0
        · have hf := pm_it hf c43
          obtain ⟨v44, e45, hf⟩ := pm_bd hf
          have K46 := rgX9_number K0 Hx0 e45
          obtain ⟨y47, e48, hf⟩ := pm_lt hf
          obtain ⟨k49, hf⟩ := pm_if hf
          obtain ⟨v50, e51, hf⟩ := pm_bd hf
          have K52 := rgX9_valueType K46 Hx0 e51
          obtain ⟨y53, e54, hf⟩ := pm_lt hf
          cases hf
          exact ih.2.1 x0 x4 x5 x6 y47 y53 v50.2 K52 Hx0 hi
        · have hf := pm_ie hf c43
          cases hf
          exact ih.2.2.1 x0 x4 x5 x8 h K0 Hx0 hi
    refine ⟨fun x0 x4 x5 x8 h K0 Hx0 hf => ?_, ?_⟩
    · obtain ⟨y, hf, hi⟩ := pm_iter_s hf
      have hf : tX9_body_158 x0 x4 x5 x8 h = some y := hf
      unfold tX9_body_158 at hf
      by_cases c55 : x8 ≤ 4294967295
      · have hf := pm_it hf c55
        cases hf
        exact ih.2.2.2 x0 x4 x8 h K0 Hx0 hi
      · have hf := pm_ie hf c55
        obtain ⟨k56, hf⟩ := pm_if hf
        obtain ⟨v57, e58, hf⟩ := pm_bd hf
        have K59 := rgX9_fail K0 Hx0 e58
        cases hf
        exact ih.2.2.2 x0 x4 x8 v57 K59 Hx0 hi
    refine fun x0 x4 x8 h K0 Hx0 hf => ?_
    obtain ⟨y, hf, hi⟩ := pm_iter_s hf
    have hf : tX9_body_175 x0 x4 x8 h = some y := hf
    unfold tX9_body_175 at hf
    by_cases c60 : x8 ≤ 1000
    · have hf := pm_it hf c60
      obtain ⟨k61, hf⟩ := pm_if hf
      obtain ⟨v62, e63, hf⟩ := pm_bd hf
      have K64 := rgX9_expression (pr_sI K0 Hx0) Hx0 e63
      obtain ⟨k65, hf⟩ := pm_if hf
      by_cases c66 : (pm_I (pm_setI v62 x0 16 0) x0 2) ≤ (pm_I (pm_setI v62 x0 16 0) x0 1)
      · have hf := pm_it hf c66
        cases hf
        cases hi
        exact (pr_sI (pr_sI K64 Hx0) Hx0)
      · have hf := pm_ie hf c66
        obtain ⟨v67, e68, hf⟩ := pm_bd hf
        have K69 := rgX9_fail (pr_sI K64 Hx0) Hx0 e68
        obtain ⟨k70, hf⟩ := pm_if hf
        cases hf
        cases hi
        exact (pr_sI K69 Hx0)
    · have hf := pm_ie hf c60
      obtain ⟨k71, hf⟩ := pm_if hf
      obtain ⟨v72, e73, hf⟩ := pm_bd hf
      have K74 := rgX9_exceedLimit K0 Hx0 e73
      obtain ⟨k75, hf⟩ := pm_if hf
      obtain ⟨v76, e77, hf⟩ := pm_bd hf
      have K78 := rgX9_expression (pr_sI K74 Hx0) Hx0 e77
      obtain ⟨k79, hf⟩ := pm_if hf
      by_cases c80 : (pm_I (pm_setI v76 x0 16 0) x0 2) ≤ (pm_I (pm_setI v76 x0 16 0) x0 1)
      · have hf := pm_it hf c80
        cases hf
        cases hi
        exact (pr_sI (pr_sI K78 Hx0) Hx0)
      · have hf := pm_ie hf c80
        obtain ⟨v81, e82, hf⟩ := pm_bd hf
        have K83 := rgX9_fail (pr_sI K78 Hx0) Hx0 e82
        obtain ⟨k84, hf⟩ := pm_if hf
        cases hf
        cases hi
        exact (pr_sI K83 Hx0)
set_option maxHeartbeats 4000000 in
set_option maxRecDepth 100000 in
theorem rgX9_body {A : Nat → Prop} {h0 h : pm_H} (K0 : pr_F A h0 h) {a0 : Nat} (Ha0 : A a0) {r : pm_H} (hf : fX9_body h a0 = some r) : pr_F A h0 r := by
  unfold fX9_body at hf
  obtain ⟨k1, hf⟩ := pm_if hf
  obtain ⟨y2, e3, hf⟩ := pm_lt hf
  obtain ⟨v4, e5, hf⟩ := pm_bd hf
  have K6 := rgX9_number K0 Ha0 e5
  obtain ⟨k7, hf⟩ := pm_if hf
  by_cases c8 : v4.1 ≤ (((pm_I v4.2 a0 2) - (pm_I v4.2 a0 1)).toInt64)
  · have hf := pm_it hf c8
    obtain ⟨n, hn⟩ := pm_lim_iter hf
    exact (rlX9_body n).1 a0 v4.1 v4.2 K6 Ha0 hn
  · have hf := pm_ie hf c8
    obtain ⟨v9, e10, hf⟩ := pm_bd hf
    have K11 := rgX9_fail K6 Ha0 e10
    obtain ⟨n, hn⟩ := pm_lim_iter hf
    exact (rlX9_body n).1 a0 v4.1 v9 K11 Ha0 hn
set_option maxHeartbeats 4000000 in
set_option maxRecDepth 100000 in
theorem rgX9_dataOne_b89 {A : Nat → Prop} {h0 h : pm_H} (K0 : pr_F A h0 h) {x0 : Nat} {x1 : Int32} {x3 : Int64} (Hx0 : A x0) {r : pm_H} (hf : fX9_dataOne_b89 h x0 x1 x3 = some r) : pr_F A h0 r := by
  unfold fX9_dataOne_b89 at hf
  obtain ⟨k39, hf⟩ := pm_if hf
  obtain ⟨v40, e41, hf⟩ := pm_bd hf
  obtain ⟨k42, hf⟩ := pm_if hf
  obtain ⟨v43, e44, hf⟩ := pm_bd hf
  obtain ⟨v45, e46, hf⟩ := pm_bd hf
  have K47 := rgX12_setItem K0 (pr_c K0 (pr_c K0 Hx0 e41) e44) e46
  by_cases c48 : x3 = 1
  · have hf := pm_it hf c48
    obtain ⟨k49, hf⟩ := pm_if hf
    obtain ⟨v50, e51, hf⟩ := pm_bd hf
    have K52 := rgX9_number K47 Hx0 e51
    obtain ⟨k53, hf⟩ := pm_if hf
    obtain ⟨v54, e55, hf⟩ := pm_bd hf
    obtain ⟨k56, hf⟩ := pm_if hf
    obtain ⟨v57, e58, hf⟩ := pm_bd hf
    obtain ⟨v59, e60, hf⟩ := pm_bd hf
    have K61 := rgX12_setItem K52 (pr_c K52 (pr_c K52 Hx0 e55) e58) e60
    obtain ⟨k62, hf⟩ := pm_if hf
    obtain ⟨v63, e64, hf⟩ := pm_bd hf
    obtain ⟨k65, hf⟩ := pm_if hf
    obtain ⟨v66, e67, hf⟩ := pm_bd hf
    obtain ⟨v68, e69, hf⟩ := pm_lt hf
    obtain ⟨v70, e71, hf⟩ := pm_bd hf
    have K72 := rgX12_setItem K61 (pr_c K61 (pr_c K61 Hx0 e64) e67) e71
    obtain ⟨k73, hf⟩ := pm_if hf
    obtain ⟨v74, e75, hf⟩ := pm_bd hf
    have K76 := rgX9_skip K72 Hx0 e75
    cases hf
    exact K76
  · have hf := pm_ie hf c48
    obtain ⟨k77, hf⟩ := pm_if hf
    obtain ⟨v78, e79, hf⟩ := pm_bd hf
    have K80 := rgX9_expression K47 Hx0 e79
    obtain ⟨k81, hf⟩ := pm_if hf
    obtain ⟨v82, e83, hf⟩ := pm_bd hf
    have K84 := rgX9_number K80 Hx0 e83
    obtain ⟨k85, hf⟩ := pm_if hf
    obtain ⟨v86, e87, hf⟩ := pm_bd hf
    obtain ⟨k88, hf⟩ := pm_if hf
    obtain ⟨v89, e90, hf⟩ := pm_bd hf
    obtain ⟨v91, e92, hf⟩ := pm_bd hf
    have K93 := rgX12_setItem K84 (pr_c K84 (pr_c K84 Hx0 e87) e90) e92
    obtain ⟨k94, hf⟩ := pm_if hf
    obtain ⟨v95, e96, hf⟩ := pm_bd hf
    obtain ⟨k97, hf⟩ := pm_if hf
    obtain ⟨v98, e99, hf⟩ := pm_bd hf
    obtain ⟨v100, e101, hf⟩ := pm_lt hf
    obtain ⟨v102, e103, hf⟩ := pm_bd hf
    have K104 := rgX12_setItem K93 (pr_c K93 (pr_c K93 Hx0 e96) e99) e103
    obtain ⟨k105, hf⟩ := pm_if hf
    obtain ⟨v106, e107, hf⟩ := pm_bd hf
    have K108 := rgX9_skip K104 Hx0 e107
    cases hf
    exact K108
set_option maxHeartbeats 4000000 in
set_option maxRecDepth 100000 in
theorem rgX9_dataOne_b56 {A : Nat → Prop} {h0 h : pm_H} (K0 : pr_F A h0 h) {x0 : Nat} {x1 : Int32} {x3 : Int64} {s0 : Int32} {s1 : Int32} {s2 : Nat} (Hx0 : A x0) (Hs2 : A s2) {r : pm_H} (hf : fX9_dataOne_b56 h x0 x1 x3 s0 s1 s2 = some r) : pr_F A h0 r := by
  unfold fX9_dataOne_b56 at hf
  obtain ⟨v21, e22, hf⟩ := pm_bd hf
  have K23 := rgX12_setItem K0 Hs2 e22
  by_cases c24 : x3 = 2
  · have hf := pm_it hf c24
    obtain ⟨k25, hf⟩ := pm_if hf
    obtain ⟨v26, e27, hf⟩ := pm_bd hf
    obtain ⟨k28, hf⟩ := pm_if hf
    obtain ⟨v29, e30, hf⟩ := pm_bd hf
    obtain ⟨v31, e32, hf⟩ := pm_bd hf
    have K33 := rgX9_number K23 Hx0 e32
    obtain ⟨v34, e35, hf⟩ := pm_lt hf
    obtain ⟨v36, e37, hf⟩ := pm_bd hf
    have K38 := rgX12_setItem K33 (pr_c K23 (pr_c K23 Hx0 e27) e30) e37
    exact rgX9_dataOne_b89 K38 Hx0 hf
  · have hf := pm_ie hf c24
    exact rgX9_dataOne_b89 K23 Hx0 hf
set_option maxHeartbeats 4000000 in
set_option maxRecDepth 100000 in
theorem rgX9_dataOne_b35 {A : Nat → Prop} {h0 h : pm_H} (K0 : pr_F A h0 h) {x0 : Nat} {x1 : Int32} {x3 : Int64} (Hx0 : A x0) {r : pm_H} (hf : fX9_dataOne_b35 h x0 x1 x3 = some r) : pr_F A h0 r := by
  unfold fX9_dataOne_b35 at hf
  obtain ⟨k14, hf⟩ := pm_if hf
  obtain ⟨v15, e16, hf⟩ := pm_bd hf
  obtain ⟨k17, hf⟩ := pm_if hf
  obtain ⟨v18, e19, hf⟩ := pm_bd hf
  by_cases c20 : x3 = 1
  · have hf := pm_it hf c20
    exact rgX9_dataOne_b56 K0 Hx0 (pr_c K0 (pr_c K0 Hx0 e16) e19) hf
  · have hf := pm_ie hf c20
    exact rgX9_dataOne_b56 K0 Hx0 (pr_c K0 (pr_c K0 Hx0 e16) e19) hf
set_option maxHeartbeats 4000000 in
set_option maxRecDepth 100000 in
theorem rgX9_dataOne {A : Nat → Prop} {h0 h : pm_H} (K0 : pr_F A h0 h) {a0 : Nat} (Ha0 : A a0) {r : pm_H} (hf : fX9_dataOne h a0 = some r) : pr_F A h0 r := by
  unfold fX9_dataOne at hf
  obtain ⟨k1, hf⟩ := pm_if hf
  obtain ⟨y2, e3, hf⟩ := pm_lt hf
  obtain ⟨y4, e5, hf⟩ := pm_lt hf
  obtain ⟨v6, e7, hf⟩ := pm_bd hf
  have K8 := rgX9_number K0 Ha0 e7
  by_cases c9 : v6.1 ≤ 2
  · have hf := pm_it hf c9
    exact rgX9_dataOne_b35 K8 Ha0 hf
  · have hf := pm_ie hf c9
    obtain ⟨k10, hf⟩ := pm_if hf
    obtain ⟨v11, e12, hf⟩ := pm_bd hf
    have K13 := rgX9_fail K8 Ha0 e12
    exact rgX9_dataOne_b35 K13 Ha0 hf
set_option maxHeartbeats 4000000 in
set_option maxRecDepth 100000 in
theorem rlX9_element {A : Nat → Prop} {h0 : pm_H} {r : pm_H} : ∀ n : Nat, (∀ (x0 : Nat) (x1 : Int32) (x3 : Int64) (h : pm_H), pr_F A h0 h → A x0 → pm_iter sX9_element n (.inl (x0, x1, x3, h)) = some r → pr_F A h0 r) ∧ (∀ (x0 : Nat) (x1 : Int32) (x3 : Int64) (s0 : Int32) (h : pm_H), pr_F A h0 h → A x0 → pm_iter sX9_element n (.inr (.inl (x0, x1, x3, s0, h))) = some r → pr_F A h0 r) ∧ (∀ (x0 : Nat) (x1 : Int32) (x3 : Int64) (x5 : Int32) (s0 : Int32) (h : pm_H), pr_F A h0 h → A x0 → pm_iter sX9_element n (.inr (.inr (.inl (x0, x1, x3, x5, s0, h)))) = some r → pr_F A h0 r) ∧ (∀ (x0 : Nat) (x1 : Int32) (x3 : Int64) (x5 : Int32) (x6 : Int32) (s0 : Int32) (s1 : Int32) (s2 : Nat) (h : pm_H), pr_F A h0 h → A x0 → A s2 → pm_iter sX9_element n (.inr (.inr (.inr (.inl (x0, x1, x3, x5, x6, s0, s1, s2, h))))) = some r → pr_F A h0 r) ∧ (∀ (x0 : Nat) (x1 : Int32) (x3 : Int64) (x5 : Int32) (x6 : Int32) (h : pm_H), pr_F A h0 h → A x0 → pm_iter sX9_element n (.inr (.inr (.inr (.inr (.inl (x0, x1, x3, x5, x6, h)))))) = some r → pr_F A h0 r) ∧ (∀ (x0 : Nat) (x1 : Int32) (x3 : Int64) (x6 : Int32) (h : pm_H), pr_F A h0 h → A x0 → pm_iter sX9_element n (.inr (.inr (.inr (.inr (.inr (.inl (x0, x1, x3, x6, h))))))) = some r → pr_F A h0 r) ∧ (∀ (x0 : Nat) (x1 : Int32) (x6 : Int32) (x7 : Int32) (h : pm_H), pr_F A h0 h → A x0 → pm_iter sX9_element n (.inr (.inr (.inr (.inr (.inr (.inr (.inl (x0, x1, x6, x7, h)))))))) = some r → pr_F A h0 r) ∧ (∀ (x0 : Nat) (x6 : Int32) (x8 : Int64) (x10 : Int64) (h : pm_H), pr_F A h0 h → A x0 → pm_iter sX9_element n (.inr (.inr (.inr (.inr (.inr (.inr (.inr (x0, x6, x8, x10, h)))))))) = some r → pr_F A h0 r) := by
  intro n
  induction n with
  | zero => exact ⟨fun _ _ _ _ _ _ hf => (by cases hf), fun _ _ _ _ _ _ _ hf => (by cases hf), fun _ _ _ _ _ _ _ _ hf => (by cases hf), fun _ _ _ _ _ _ _ _ _ _ _ _ hf => (by cases hf), fun _ _ _ _ _ _ _ _ hf => (by cases hf), fun _ _ _ _ _ _ _ hf => (by cases hf), fun _ _ _ _ _ _ _ hf => (by cases hf), fun _ _ _ _ _ _ _ hf => (by cases hf)⟩
  | succ n ih =>
    refine ⟨fun x0 x1 x3 h K0 Hx0 hf => ?_, ?_⟩
    · obtain ⟨y, hf, hi⟩ := pm_iter_s hf
      have hf : tX9_element_35 x0 x1 x3 h = some y := hf
      unfold tX9_element_35 at hf
      by_cases c14 : (x3 &&& 1) = 0
      · have hf := pm_it hf c14
        cases hf
        exact ih.2.1 x0 x1 x3 1 h K0 Hx0 hi
      · have hf := pm_ie hf c14
        cases hf
        exact ih.2.1 x0 x1 x3 0 h K0 Hx0 hi
    refine ⟨fun x0 x1 x3 s0 h K0 Hx0 hf => ?_, ?_⟩
    · obtain ⟨y, hf, hi⟩ := pm_iter_s hf
      have hf : tX9_element_48 x0 x1 x3 s0 h = some y := hf
      unfold tX9_element_48 at hf
      by_cases c15 : (x3 &&& 4) = 0
      · have hf := pm_it hf c15
        cases hf
        exact ih.2.2.1 x0 x1 x3 s0 0 h K0 Hx0 hi
      · have hf := pm_ie hf c15
        cases hf
        exact ih.2.2.1 x0 x1 x3 s0 1 h K0 Hx0 hi
    refine ⟨fun x0 x1 x3 x5 s0 h K0 Hx0 hf => ?_, ?_⟩
    · obtain ⟨y, hf, hi⟩ := pm_iter_s hf
      have hf : tX9_element_65 x0 x1 x3 x5 s0 h = some y := hf
      unfold tX9_element_65 at hf
      obtain ⟨k16, hf⟩ := pm_if hf
      obtain ⟨v17, e18, hf⟩ := pm_bd hf
      obtain ⟨k19, hf⟩ := pm_if hf
      obtain ⟨v20, e21, hf⟩ := pm_bd hf
      by_cases c22 : x5 = 0
      · have hf := pm_it hf c22
        by_cases c23 : (x3 &&& 2) = 0
        · have hf := pm_it hf c23
          cases hf
          exact ih.2.2.2.1 x0 x1 x3 x5 s0 1 (x1 + 0) v20 h K0 Hx0 (pr_c K0 (pr_c K0 Hx0 e18) e21) hi
        · have hf := pm_ie hf c23
          cases hf
          exact ih.2.2.2.1 x0 x1 x3 x5 s0 2 (x1 + 0) v20 h K0 Hx0 (pr_c K0 (pr_c K0 Hx0 e18) e21) hi
      · have hf := pm_ie hf c22
        cases hf
        exact ih.2.2.2.1 x0 x1 x3 x5 s0 0 (x1 + 0) v20 h K0 Hx0 (pr_c K0 (pr_c K0 Hx0 e18) e21) hi
    refine ⟨fun x0 x1 x3 x5 x6 s0 s1 s2 h K0 Hx0 Hs2 hf => ?_, ?_⟩
    · obtain ⟨y, hf, hi⟩ := pm_iter_s hf
      have hf : tX9_element_101 x0 x1 x3 x5 x6 s0 s1 s2 h = some y := hf
      unfold tX9_element_101 at hf
      obtain ⟨v24, e25, hf⟩ := pm_bd hf
      have K26 := rgX12_setItem K0 Hs2 e25
      by_cases c27 : x5 = 0
      · have hf := pm_it hf c27
        cases hf
        exact ih.2.2.2.2.1 x0 x1 x3 x5 x6 v24 K26 Hx0 hi
      · have hf := pm_ie hf c27
        by_cases c28 : (x3 &&& 2) = 0
        · have hf := pm_it hf c28
          cases hf
          exact ih.2.2.2.2.1 x0 x1 x3 x5 x6 v24 K26 Hx0 hi
        · have hf := pm_ie hf c28
          obtain ⟨k29, hf⟩ := pm_if hf
          obtain ⟨v30, e31, hf⟩ := pm_bd hf
          obtain ⟨k32, hf⟩ := pm_if hf
          obtain ⟨v33, e34, hf⟩ := pm_bd hf
          obtain ⟨v35, e36, hf⟩ := pm_bd hf
          have K37 := rgX9_number K26 Hx0 e36
          obtain ⟨v38, e39, hf⟩ := pm_lt hf
          obtain ⟨v40, e41, hf⟩ := pm_bd hf
          have K42 := rgX12_setItem K37 (pr_c K26 (pr_c K26 Hx0 e31) e34) e41
          cases hf
          exact ih.2.2.2.2.1 x0 x1 x3 x5 x6 v40 K42 Hx0 hi
    refine ⟨fun x0 x1 x3 x5 x6 h K0 Hx0 hf => ?_, ?_⟩
    · obtain ⟨y, hf, hi⟩ := pm_iter_s hf
      have hf : tX9_element_141 x0 x1 x3 x5 x6 h = some y := hf
      unfold tX9_element_141 at hf
      obtain ⟨k43, hf⟩ := pm_if hf
      obtain ⟨v44, e45, hf⟩ := pm_bd hf
      obtain ⟨k46, hf⟩ := pm_if hf
      obtain ⟨v47, e48, hf⟩ := pm_bd hf
      obtain ⟨v49, e50, hf⟩ := pm_bd hf
      have K51 := rgX12_setItem K0 (pr_c K0 (pr_c K0 Hx0 e45) e48) e50
      by_cases c52 : x5 = 0
      · have hf := pm_it hf c52
        cases hf
        exact ih.2.2.2.2.2.1 x0 x1 x3 x6 v49 K51 Hx0 hi
      · have hf := pm_ie hf c52
        obtain ⟨k53, hf⟩ := pm_if hf
        obtain ⟨v54, e55, hf⟩ := pm_bd hf
        have K56 := rgX9_expression K51 Hx0 e55
        cases hf
        exact ih.2.2.2.2.2.1 x0 x1 x3 x6 v54 K56 Hx0 hi
    refine ⟨fun x0 x1 x3 x6 h K0 Hx0 hf => ?_, ?_⟩
    · obtain ⟨y, hf, hi⟩ := pm_iter_s hf
      have hf : tX9_element_167 x0 x1 x3 x6 h = some y := hf
      unfold tX9_element_167 at hf
      by_cases c57 : x3 = 0
      · have hf := pm_it hf c57
        cases hf
        exact ih.2.2.2.2.2.2.1 x0 x1 x6 112 h K0 Hx0 hi
      · have hf := pm_ie hf c57
        by_cases c58 : x3 = 4
        · have hf := pm_it hf c58
          cases hf
          exact ih.2.2.2.2.2.2.1 x0 x1 x6 112 h K0 Hx0 hi
        · have hf := pm_ie hf c58
          by_cases c59 : x6 = 0
          · have hf := pm_it hf c59
            obtain ⟨k60, hf⟩ := pm_if hf
            obtain ⟨v61, e62, hf⟩ := pm_bd hf
            have K63 := rgX9_nextUpTo K0 Hx0 e62
            cases hf
            exact ih.2.2.2.2.2.2.1 x0 x1 x6 112 v61.2 K63 Hx0 hi
          · have hf := pm_ie hf c59
            obtain ⟨k64, hf⟩ := pm_if hf
            obtain ⟨v65, e66, hf⟩ := pm_bd hf
            have K67 := rgX9_referenceType K0 Hx0 e66
            cases hf
            exact ih.2.2.2.2.2.2.1 x0 x1 x6 v65.1 v65.2 K67 Hx0 hi
    refine ⟨fun x0 x1 x6 x7 h K0 Hx0 hf => ?_, ?_⟩
    · obtain ⟨y, hf, hi⟩ := pm_iter_s hf
      have hf : tX9_element_205 x0 x1 x6 x7 h = some y := hf
      unfold tX9_element_205 at hf
      obtain ⟨k68, hf⟩ := pm_if hf
      obtain ⟨v69, e70, hf⟩ := pm_bd hf
      have K71 := rgX9_number K0 Hx0 e70
      obtain ⟨k72, hf⟩ := pm_if hf
      obtain ⟨v73, e74, hf⟩ := pm_bd hf
      obtain ⟨k75, hf⟩ := pm_if hf
      obtain ⟨v76, e77, hf⟩ := pm_bd hf
      obtain ⟨v78, e79, hf⟩ := pm_bd hf
      have K80 := rgX12_setItem K71 (pr_c K71 (pr_c K71 Hx0 e74) e77) e79
      obtain ⟨k81, hf⟩ := pm_if hf
      obtain ⟨v82, e83, hf⟩ := pm_bd hf
      obtain ⟨k84, hf⟩ := pm_if hf
      obtain ⟨v85, e86, hf⟩ := pm_bd hf
      obtain ⟨v87, e88, hf⟩ := pm_lt hf
      obtain ⟨v89, e90, hf⟩ := pm_bd hf
      have K91 := rgX12_setItem K80 (pr_c K80 (pr_c K80 Hx0 e83) e86) e90
      obtain ⟨k92, hf⟩ := pm_if hf
      obtain ⟨v93, e94, hf⟩ := pm_bd hf
      obtain ⟨k95, hf⟩ := pm_if hf
      obtain ⟨v96, e97, hf⟩ := pm_bd hf
      obtain ⟨v98, e99, hf⟩ := pm_bd hf
      have K100 := rgX12_setItem K91 (pr_c K91 (pr_c K91 Hx0 e94) e97) e99
      obtain ⟨k101, hf⟩ := pm_if hf
      obtain ⟨v102, e103, hf⟩ := pm_bd hf
      obtain ⟨k104, hf⟩ := pm_if hf
      obtain ⟨v105, e106, hf⟩ := pm_bd hf
      by_cases c107 : x6 = 0
      · have hf := pm_it hf c107
        obtain ⟨v108, e109, hf⟩ := pm_bd hf
        have K110 := rgX12_setItem K100 (pr_c K100 (pr_c K100 Hx0 e103) e106) e109
        cases hf
        exact ih.2.2.2.2.2.2.2 x0 x6 v69.1 0 v108 K110 Hx0 hi
      · have hf := pm_ie hf c107
        obtain ⟨v111, e112, hf⟩ := pm_bd hf
        have K113 := rgX12_setItem K100 (pr_c K100 (pr_c K100 Hx0 e103) e106) e112
        cases hf
        exact ih.2.2.2.2.2.2.2 x0 x6 v69.1 0 v111 K113 Hx0 hi
    refine fun x0 x6 x8 x10 h K0 Hx0 hf => ?_
    obtain ⟨y, hf, hi⟩ := pm_iter_s hf
    have hf : tX9_element_290 x0 x6 x8 x10 h = some y := hf
    unfold tX9_element_290 at hf
    by_cases c114 : x8 ≤ x10
    · have hf := pm_it hf c114
      cases hf
      cases hi
      exact K0
    · have hf := pm_ie hf c114
      obtain ⟨k115, hf⟩ := pm_if hf
      by_cases c116 : (pm_I h x0 3) = 0
      · have hf := pm_it hf c116
        by_cases c117 : x6 = 0
        · have hf := pm_it hf c117
          obtain ⟨v118, e119, hf⟩ := pm_bd hf
          have K120 := rgX9_number K0 Hx0 e119
          obtain ⟨y121, e122, hf⟩ := pm_lt hf
          cases hf
          exact ih.2.2.2.2.2.2.2 x0 x6 x8 y121 v118.2 K120 Hx0 hi
        · have hf := pm_ie hf c117
          obtain ⟨v123, e124, hf⟩ := pm_bd hf
          have K125 := rgX9_expression K0 Hx0 e124
          obtain ⟨y126, e127, hf⟩ := pm_lt hf
          cases hf
          exact ih.2.2.2.2.2.2.2 x0 x6 x8 y126 v123 K125 Hx0 hi
      · have hf := pm_ie hf c116
        cases hf
        cases hi
        exact K0
set_option maxHeartbeats 4000000 in
set_option maxRecDepth 100000 in
theorem rgX9_element {A : Nat → Prop} {h0 h : pm_H} (K0 : pr_F A h0 h) {a0 : Nat} (Ha0 : A a0) {r : pm_H} (hf : fX9_element h a0 = some r) : pr_F A h0 r := by
  unfold fX9_element at hf
  obtain ⟨k1, hf⟩ := pm_if hf
  obtain ⟨y2, e3, hf⟩ := pm_lt hf
  obtain ⟨y4, e5, hf⟩ := pm_lt hf
  obtain ⟨v6, e7, hf⟩ := pm_bd hf
  have K8 := rgX9_number K0 Ha0 e7
  by_cases c9 : v6.1 ≤ 7
  · have hf := pm_it hf c9
    obtain ⟨n, hn⟩ := pm_lim_iter hf
    exact (rlX9_element n).1 a0 y2 v6.1 v6.2 K8 Ha0 hn
  · have hf := pm_ie hf c9
    obtain ⟨k10, hf⟩ := pm_if hf
    obtain ⟨v11, e12, hf⟩ := pm_bd hf
    have K13 := rgX9_fail K8 Ha0 e12
    obtain ⟨n, hn⟩ := pm_lim_iter hf
    exact (rlX9_element n).1 a0 y2 v6.1 v11 K13 Ha0 hn
set_option maxHeartbeats 4000000 in
set_option maxRecDepth 100000 in
theorem rgX0_init_b40 {A : Nat → Prop} {h0 h : pm_H} (K0 : pr_F A h0 h) {s0 : Nat} {s1 : Nat} (Hs0 : A s0) (Hs1 : A s1) {r : pm_H} (hf : fX0_init_b40 h s0 s1 = some r) : pr_F A h0 r := by
  unfold fX0_init_b40 at hf
  obtain ⟨k8, hf⟩ := pm_if hf
  have hf := Option.some.inj hf
  subst hf
  exact (pr_sR K0 Hs1 Hs0)
set_option maxHeartbeats 4000000 in
set_option maxRecDepth 100000 in
theorem rgX0_init_b22 {A : Nat → Prop} {h0 h : pm_H} (K0 : pr_F A h0 h) {x0 : Nat} {x1 : Nat} {x2 : Int32} {s0 : Nat} {s1 : Nat} (Hx0 : A x0) (Hx1 : A x1) (Hs0 : A s0) (Hs1 : A s1) {r : pm_H} (hf : fX0_init_b22 h x0 x1 x2 s0 s1 = some r) : pr_F A h0 r := by
  unfold fX0_init_b22 at hf
  obtain ⟨k3, hf⟩ := pm_if hf
  obtain ⟨k4, hf⟩ := pm_if hf
  obtain ⟨y5, e6, hf⟩ := pm_lt hf
  obtain ⟨u7, hf⟩ := pm_if hf
  exact rgX0_init_b40 (pr_new (pr_sR (pr_sR K0 Hs1 Hs0) Hx0 Hx1)) (pr_n (pr_sR (pr_sR K0 Hs1 Hs0) Hx0 Hx1)) Hx0 hf
set_option maxHeartbeats 4000000 in
set_option maxRecDepth 100000 in
theorem rgX0_init_b15 {A : Nat → Prop} {h0 h : pm_H} (K0 : pr_F A h0 h) {x0 : Nat} {x1 : Nat} {x2 : Int32} {s0 : Nat} {s1 : Nat} (Hx0 : A x0) (Hx1 : A x1) (Hs0 : A s0) (Hs1 : A s1) {r : pm_H} (hf : fX0_init_b15 h x0 x1 x2 s0 s1 = some r) : pr_F A h0 r := by
  unfold fX0_init_b15 at hf
  obtain ⟨k2, hf⟩ := pm_if hf
  exact rgX0_init_b22 (pr_new (pr_sR K0 Hs1 Hs0)) Hx0 Hx1 (pr_n (pr_sR K0 Hs1 Hs0)) Hx0 hf
set_option maxHeartbeats 4000000 in
set_option maxRecDepth 100000 in
theorem rgX0_init_b8 {A : Nat → Prop} {h0 h : pm_H} (K0 : pr_F A h0 h) {x0 : Nat} {x1 : Nat} {x2 : Int32} {s0 : Nat} {s1 : Nat} (Hx0 : A x0) (Hx1 : A x1) (Hs0 : A s0) (Hs1 : A s1) {r : pm_H} (hf : fX0_init_b8 h x0 x1 x2 s0 s1 = some r) : pr_F A h0 r := by
  unfold fX0_init_b8 at hf
  obtain ⟨k1, hf⟩ := pm_if hf
  exact rgX0_init_b15 (pr_new (pr_sR K0 Hs1 Hs0)) Hx0 Hx1 (pr_n (pr_sR K0 Hs1 Hs0)) Hx0 hf
set_option maxHeartbeats 4000000 in
set_option maxRecDepth 100000 in
theorem rgX0_init_b0 {A : Nat → Prop} {h0 h : pm_H} (K0 : pr_F A h0 h) {x0 : Nat} {x1 : Nat} {x2 : Int32} (Hx0 : A x0) (Hx1 : A x1) {r : pm_H} (hf : fX0_init_b0 h x0 x1 x2 = some r) : pr_F A h0 r := by
  unfold fX0_init_b0 at hf
  exact rgX0_init_b8 (pr_new K0) Hx0 Hx1 (pr_n K0) Hx0 hf
set_option maxHeartbeats 4000000 in
set_option maxRecDepth 100000 in
theorem rgX0_init {A : Nat → Prop} {h0 h : pm_H} (K0 : pr_F A h0 h) {a0 : Nat} {p1 : Nat} {p2 : Int32} (Ha0 : A a0) (Hp1 : A p1) {r : pm_H} (hf : fX0_init h a0 p1 p2 = some r) : pr_F A h0 r := by
  unfold fX0_init at hf
  exact rgX0_init_b0 K0 Ha0 Hp1 hf
set_option maxHeartbeats 4000000 in
set_option maxRecDepth 100000 in
theorem rgX2_init_b44 {A : Nat → Prop} {h0 h : pm_H} (K0 : pr_F A h0 h) {x0 : Nat} {x1 : Nat} {s0 : Nat} {s1 : Nat} (Hx0 : A x0) (Hx1 : A x1) (Hs0 : A s0) (Hs1 : A s1) {r : pm_H} (hf : fX2_init_b44 h x0 x1 s0 s1 = some r) : pr_F A h0 r := by
  unfold fX2_init_b44 at hf
  obtain ⟨k6, hf⟩ := pm_if hf
  obtain ⟨k7, hf⟩ := pm_if hf
  have hf := Option.some.inj hf
  subst hf
  exact (pr_sR (pr_sR K0 Hs1 Hs0) Hx0 Hx1)
set_option maxHeartbeats 4000000 in
set_option maxRecDepth 100000 in
theorem rgX2_init_b35 {A : Nat → Prop} {h0 h : pm_H} (K0 : pr_F A h0 h) {x0 : Nat} {x1 : Nat} {s0 : Nat} {s1 : Nat} (Hx0 : A x0) (Hx1 : A x1) (Hs0 : A s0) (Hs1 : A s1) {r : pm_H} (hf : fX2_init_b35 h x0 x1 s0 s1 = some r) : pr_F A h0 r := by
  unfold fX2_init_b35 at hf
  obtain ⟨k5, hf⟩ := pm_if hf
  exact rgX2_init_b44 (pr_new (pr_sR K0 Hs1 Hs0)) Hx0 Hx1 (pr_n (pr_sR K0 Hs1 Hs0)) Hx0 hf
set_option maxHeartbeats 4000000 in
set_option maxRecDepth 100000 in
theorem rgX2_init_b28 {A : Nat → Prop} {h0 h : pm_H} (K0 : pr_F A h0 h) {x0 : Nat} {x1 : Nat} {s0 : Nat} {s1 : Nat} (Hx0 : A x0) (Hx1 : A x1) (Hs0 : A s0) (Hs1 : A s1) {r : pm_H} (hf : fX2_init_b28 h x0 x1 s0 s1 = some r) : pr_F A h0 r := by
  unfold fX2_init_b28 at hf
  obtain ⟨k4, hf⟩ := pm_if hf
  exact rgX2_init_b35 (pr_new (pr_sR K0 Hs1 Hs0)) Hx0 Hx1 (pr_n (pr_sR K0 Hs1 Hs0)) Hx0 hf
set_option maxHeartbeats 4000000 in
set_option maxRecDepth 100000 in
theorem rgX2_init_b21 {A : Nat → Prop} {h0 h : pm_H} (K0 : pr_F A h0 h) {x0 : Nat} {x1 : Nat} {s0 : Nat} {s1 : Nat} (Hx0 : A x0) (Hx1 : A x1) (Hs0 : A s0) (Hs1 : A s1) {r : pm_H} (hf : fX2_init_b21 h x0 x1 s0 s1 = some r) : pr_F A h0 r := by
  unfold fX2_init_b21 at hf
  obtain ⟨k3, hf⟩ := pm_if hf
  exact rgX2_init_b28 (pr_new (pr_sR K0 Hs1 Hs0)) Hx0 Hx1 (pr_n (pr_sR K0 Hs1 Hs0)) Hx0 hf
set_option maxHeartbeats 4000000 in
set_option maxRecDepth 100000 in
theorem rgX2_init_b14 {A : Nat → Prop} {h0 h : pm_H} (K0 : pr_F A h0 h) {x0 : Nat} {x1 : Nat} {s0 : Nat} {s1 : Nat} (Hx0 : A x0) (Hx1 : A x1) (Hs0 : A s0) (Hs1 : A s1) {r : pm_H} (hf : fX2_init_b14 h x0 x1 s0 s1 = some r) : pr_F A h0 r := by
  unfold fX2_init_b14 at hf
  obtain ⟨k2, hf⟩ := pm_if hf
  exact rgX2_init_b21 (pr_new (pr_sR K0 Hs1 Hs0)) Hx0 Hx1 (pr_n (pr_sR K0 Hs1 Hs0)) Hx0 hf
set_option maxHeartbeats 4000000 in
set_option maxRecDepth 100000 in
theorem rgX2_init_b0 {A : Nat → Prop} {h0 h : pm_H} (K0 : pr_F A h0 h) {x0 : Nat} {x1 : Nat} (Hx0 : A x0) (Hx1 : A x1) {r : pm_H} (hf : fX2_init_b0 h x0 x1 = some r) : pr_F A h0 r := by
  unfold fX2_init_b0 at hf
  obtain ⟨k1, hf⟩ := pm_if hf
  exact rgX2_init_b14 (pr_new (pr_sI K0 Hx0)) Hx0 Hx1 (pr_n (pr_sI K0 Hx0)) Hx0 hf
set_option maxHeartbeats 4000000 in
set_option maxRecDepth 100000 in
theorem rgX2_init {A : Nat → Prop} {h0 h : pm_H} (K0 : pr_F A h0 h) {a0 : Nat} {p1 : Nat} (Ha0 : A a0) (Hp1 : A p1) {r : pm_H} (hf : fX2_init h a0 p1 = some r) : pr_F A h0 r := by
  unfold fX2_init at hf
  exact rgX2_init_b0 K0 Ha0 Hp1 hf
set_option maxHeartbeats 4000000 in
set_option maxRecDepth 100000 in
theorem rgX3_init {A : Nat → Prop} {h0 h : pm_H} (K0 : pr_F A h0 h) {a0 : Nat} {p1 : Nat} {p2 : Nat} (Ha0 : A a0) (Hp1 : A p1) (Hp2 : A p2) {r : pm_H} (hf : fX3_init h a0 p1 p2 = some r) : pr_F A h0 r := by
  unfold fX3_init at hf
  obtain ⟨k1, hf⟩ := pm_if hf
  obtain ⟨k2, hf⟩ := pm_if hf
  obtain ⟨v3, e4, hf⟩ := pm_bd hf
  cases hf
  exact (pr_sR (pr_sR (pr_sR K0 Ha0 Hp1) Ha0 Hp2) Ha0 (pr_c (pr_sR (pr_sR K0 Ha0 Hp1) Ha0 Hp2) Hp2 e4))
set_option maxHeartbeats 4000000 in
set_option maxRecDepth 100000 in
theorem rlX5_init {A : Nat → Prop} {h0 : pm_H} {r : pm_H} : ∀ n : Nat, (∀ (x0 : Nat) (x1 : Nat) (h : pm_H), pr_F A h0 h → A x0 → A x1 → pm_iter sX5_init n (.inl (x0, x1, h)) = some r → pr_F A h0 r) ∧ (∀ (x0 : Nat) (x1 : Nat) (s0 : Nat) (s1 : Nat) (h : pm_H), pr_F A h0 h → A x0 → A x1 → A s0 → A s1 → pm_iter sX5_init n (.inr (.inl (x0, x1, s0, s1, h))) = some r → pr_F A h0 r) ∧ (∀ (x0 : Nat) (x1 : Nat) (s0 : Nat) (s1 : Nat) (h : pm_H), pr_F A h0 h → A x0 → A x1 → A s0 → A s1 → pm_iter sX5_init n (.inr (.inr (.inl (x0, x1, s0, s1, h)))) = some r → pr_F A h0 r) ∧ (∀ (x0 : Nat) (x1 : Nat) (s0 : Nat) (s1 : Nat) (h : pm_H), pr_F A h0 h → A x0 → A x1 → A s0 → A s1 → pm_iter sX5_init n (.inr (.inr (.inr (.inl (x0, x1, s0, s1, h))))) = some r → pr_F A h0 r) ∧ (∀ (x0 : Nat) (x1 : Nat) (s0 : Nat) (h : pm_H), pr_F A h0 h → A x0 → A x1 → A s0 → pm_iter sX5_init n (.inr (.inr (.inr (.inr (.inl (x0, x1, s0, h)))))) = some r → pr_F A h0 r) ∧ (∀ (x0 : Nat) (x1 : Nat) (s0 : Nat) (s1 : Nat) (s2 : Nat) (h : pm_H), pr_F A h0 h → A x0 → A x1 → A s0 → A s1 → A s2 → pm_iter sX5_init n (.inr (.inr (.inr (.inr (.inr (.inl (x0, x1, s0, s1, s2, h))))))) = some r → pr_F A h0 r) ∧ (∀ (x0 : Nat) (x1 : Nat) (s0 : Nat) (h : pm_H), pr_F A h0 h → A x0 → A x1 → A s0 → pm_iter sX5_init n (.inr (.inr (.inr (.inr (.inr (.inr (.inl (x0, x1, s0, h)))))))) = some r → pr_F A h0 r) ∧ (∀ (x0 : Nat) (x1 : Nat) (x2 : Nat) (s0 : Nat) (s1 : Nat) (h : pm_H), pr_F A h0 h → A x0 → A x1 → A x2 → A s0 → A s1 → pm_iter sX5_init n (.inr (.inr (.inr (.inr (.inr (.inr (.inr (.inl (x0, x1, x2, s0, s1, h))))))))) = some r → pr_F A h0 r) ∧ (∀ (x0 : Nat) (x1 : Nat) (x2 : Nat) (s0 : Nat) (s1 : Nat) (h : pm_H), pr_F A h0 h → A x0 → A x1 → A x2 → A s0 → A s1 → pm_iter sX5_init n (.inr (.inr (.inr (.inr (.inr (.inr (.inr (.inr (.inl (x0, x1, x2, s0, s1, h)))))))))) = some r → pr_F A h0 r) ∧ (∀ (x0 : Nat) (x1 : Nat) (x2 : Nat) (x3 : Int32) (h : pm_H), pr_F A h0 h → A x0 → A x1 → A x2 → pm_iter sX5_init n (.inr (.inr (.inr (.inr (.inr (.inr (.inr (.inr (.inr (.inl (x0, x1, x2, x3, h))))))))))) = some r → pr_F A h0 r) ∧ (∀ (x0 : Nat) (x1 : Nat) (x2 : Nat) (x3 : Int32) (s0 : Nat) (s1 : Int32) (s2 : Nat) (h : pm_H), pr_F A h0 h → A x0 → A x1 → A x2 → A s0 → A s2 → pm_iter sX5_init n (.inr (.inr (.inr (.inr (.inr (.inr (.inr (.inr (.inr (.inr (x0, x1, x2, x3, s0, s1, s2, h))))))))))) = some r → pr_F A h0 r) := by
  intro n
  induction n with
  | zero => exact ⟨fun _ _ _ _ _ _ hf => (by cases hf), fun _ _ _ _ _ _ _ _ _ _ hf => (by cases hf), fun _ _ _ _ _ _ _ _ _ _ hf => (by cases hf), fun _ _ _ _ _ _ _ _ _ _ hf => (by cases hf), fun _ _ _ _ _ _ _ _ hf => (by cases hf), fun _ _ _ _ _ _ _ _ _ _ _ _ hf => (by cases hf), fun _ _ _ _ _ _ _ _ hf => (by cases hf), fun _ _ _ _ _ _ _ _ _ _ _ _ hf => (by cases hf), fun _ _ _ _ _ _ _ _ _ _ _ _ hf => (by cases hf), fun _ _ _ _ _ _ _ _ _ hf => (by cases hf), fun _ _ _ _ _ _ _ _ _ _ _ _ _ _ hf => (by cases hf)⟩
  | succ n ih =>
    refine ⟨fun x0 x1 h K0 Hx0 Hx1 hf => ?_, ?_⟩
    · obtain ⟨y, hf, hi⟩ := pm_iter_s hf
      have hf : tX5_init_0 x0 x1 h = some y := hf
      unfold tX5_init_0 at hf
      cases hf
      exact ih.2.1 x0 x1 (pm_sz h) x0 (pm_new h 35 16) (pr_new K0) Hx0 Hx1 (pr_n K0) Hx0 hi
    refine ⟨fun x0 x1 s0 s1 h K0 Hx0 Hx1 Hs0 Hs1 hf => ?_, ?_⟩
    · obtain ⟨y, hf, hi⟩ := pm_iter_s hf
      have hf : tX5_init_9 x0 x1 s0 s1 h = some y := hf
      unfold tX5_init_9 at hf
      obtain ⟨k1, hf⟩ := pm_if hf
      cases hf
      exact ih.2.2.1 x0 x1 (pm_sz (pm_setR h s1 6 (some s0))) x0 (pm_new (pm_setR h s1 6 (some s0)) 35 4096) (pr_new (pr_sR K0 Hs1 Hs0)) Hx0 Hx1 (pr_n (pr_sR K0 Hs1 Hs0)) Hx0 hi
    refine ⟨fun x0 x1 s0 s1 h K0 Hx0 Hx1 Hs0 Hs1 hf => ?_, ?_⟩
    · obtain ⟨y, hf, hi⟩ := pm_iter_s hf
      have hf : tX5_init_18 x0 x1 s0 s1 h = some y := hf
      unfold tX5_init_18 at hf
      obtain ⟨k2, hf⟩ := pm_if hf
      cases hf
      exact ih.2.2.2.1 x0 x1 (pm_sz (pm_setR h s1 10 (some s0))) x0 (pm_new (pm_setR h s1 10 (some s0)) 39 200) (pr_new (pr_sR K0 Hs1 Hs0)) Hx0 Hx1 (pr_n (pr_sR K0 Hs1 Hs0)) Hx0 hi
    refine ⟨fun x0 x1 s0 s1 h K0 Hx0 Hx1 Hs0 Hs1 hf => ?_, ?_⟩
    · obtain ⟨y, hf, hi⟩ := pm_iter_s hf
      have hf : tX5_init_28 x0 x1 s0 s1 h = some y := hf
      unfold tX5_init_28 at hf
      obtain ⟨k3, hf⟩ := pm_if hf
      obtain ⟨k4, hf⟩ := pm_if hf
      cases hf
      exact ih.2.2.2.2.1 x0 x1 (pm_sz (pm_setR (pm_setR h s1 11 (some s0)) x0 8 (some x1))) (pm_new (pm_setR (pm_setR h s1 11 (some s0)) x0 8 (some x1)) 0 0) (pr_new (pr_sR (pr_sR K0 Hs1 Hs0) Hx0 Hx1)) Hx0 Hx1 (pr_n (pr_sR (pr_sR K0 Hs1 Hs0) Hx0 Hx1)) hi
    refine ⟨fun x0 x1 s0 h K0 Hx0 Hx1 Hs0 hf => ?_, ?_⟩
    · obtain ⟨y, hf, hi⟩ := pm_iter_s hf
      have hf : tX5_init_39 x0 x1 s0 h = some y := hf
      unfold tX5_init_39 at hf
      cases hf
      exact ih.2.2.2.2.2.1 x0 x1 (pm_sz h) s0 s0 (pm_new h 34 2) (pr_new K0) Hx0 Hx1 (pr_n K0) Hs0 Hs0 hi
    refine ⟨fun x0 x1 s0 s1 s2 h K0 Hx0 Hx1 Hs0 Hs1 Hs2 hf => ?_, ?_⟩
    · obtain ⟨y, hf, hi⟩ := pm_iter_s hf
      have hf : tX5_init_43 x0 x1 s0 s1 s2 h = some y := hf
      unfold tX5_init_43 at hf
      obtain ⟨v5, e6, hf⟩ := pm_bd hf
      have K7 := rgX0_init K0 Hs1 Hs0 e6
      cases hf
      exact ih.2.2.2.2.2.2.1 x0 x1 s2 v5 K7 Hx0 Hx1 Hs2 hi
    refine ⟨fun x0 x1 s0 h K0 Hx0 Hx1 Hs0 hf => ?_, ?_⟩
    · obtain ⟨y, hf, hi⟩ := pm_iter_s hf
      have hf : tX5_init_47 x0 x1 s0 h = some y := hf
      unfold tX5_init_47 at hf
      cases hf
      exact ih.2.2.2.2.2.2.2.1 x0 x1 s0 (pm_sz h) x0 (pm_new h 2 0) (pr_new K0) Hx0 Hx1 Hs0 (pr_n K0) Hx0 hi
    refine ⟨fun x0 x1 x2 s0 s1 h K0 Hx0 Hx1 Hx2 Hs0 Hs1 hf => ?_, ?_⟩
    · obtain ⟨y, hf, hi⟩ := pm_iter_s hf
      have hf : tX5_init_52 x0 x1 x2 s0 s1 h = some y := hf
      unfold tX5_init_52 at hf
      obtain ⟨v8, e9, hf⟩ := pm_bd hf
      have K10 := rgX2_init K0 Hs0 Hx2 e9
      cases hf
      exact ih.2.2.2.2.2.2.2.2.1 x0 x1 x2 s0 s1 v8 K10 Hx0 Hx1 Hx2 Hs0 Hs1 hi
    refine ⟨fun x0 x1 x2 s0 s1 h K0 Hx0 Hx1 Hx2 Hs0 Hs1 hf => ?_, ?_⟩
    · obtain ⟨y, hf, hi⟩ := pm_iter_s hf
      have hf : tX5_init_57 x0 x1 x2 s0 s1 h = some y := hf
      unfold tX5_init_57 at hf
      obtain ⟨k11, hf⟩ := pm_if hf
      cases hf
      exact ih.2.2.2.2.2.2.2.2.2.1 x0 x1 x2 0 (pm_setR h s1 9 (some s0)) (pr_sR K0 Hs1 Hs0) Hx0 Hx1 Hx2 hi
    refine ⟨fun x0 x1 x2 x3 h K0 Hx0 Hx1 Hx2 hf => ?_, ?_⟩
    · obtain ⟨y, hf, hi⟩ := pm_iter_s hf
      have hf : tX5_init_62 x0 x1 x2 x3 h = some y := hf
      unfold tX5_init_62 at hf
      obtain ⟨k12, hf⟩ := pm_if hf
      obtain ⟨v13, e14, hf⟩ := pm_bd hf
      obtain ⟨k15, hf⟩ := pm_if hf
      by_cases c16 : (Int32.ofNat (pm_ln h v13)) ≤ x3
      · have hf := pm_it hf c16
        obtain ⟨u17, hf⟩ := pm_if hf
        obtain ⟨v18, e19, hf⟩ := pm_bd hf
        have hf := Option.some.inj hf
        subst hf
        have hi := Option.some.inj (show some _ = some r from hi)
        subst hi
        exact (pr_sR K0 Hx0 (pr_c K0 (pr_c K0 Hx0 e14) e19))
      · have hf := pm_ie hf c16
        cases hf
        exact ih.2.2.2.2.2.2.2.2.2.2 x0 x1 x2 x3 (pm_sz h) x3 v13 (pm_new h 3 0) (pr_new K0) Hx0 Hx1 Hx2 (pr_n K0) (pr_c K0 Hx0 e14) hi
    refine fun x0 x1 x2 x3 s0 s1 s2 h K0 Hx0 Hx1 Hx2 Hs0 Hs2 hf => ?_
    obtain ⟨y, hf, hi⟩ := pm_iter_s hf
    have hf : tX5_init_79 x0 x1 x2 x3 s0 s1 s2 h = some y := hf
    unfold tX5_init_79 at hf
    obtain ⟨k20, hf⟩ := pm_if hf
    obtain ⟨v21, e22, hf⟩ := pm_bd hf
    have K23 := rgX10_instanceAt K0 Hx1 e22
    obtain ⟨v24, e25, hf⟩ := pm_bd hf
    have K26 := rgX3_init K0 Hs0 K23 Hx2 e25
    obtain ⟨k27, hf⟩ := pm_if hf
    obtain ⟨k28, hf⟩ := pm_if hf
    obtain ⟨u29, hf⟩ := pm_if hf
    obtain ⟨y30, e31, hf⟩ := pm_lt hf
    cases hf
    exact ih.2.2.2.2.2.2.2.2.2.1 x0 x1 x2 y30 (pm_setR v24 s2 s1.toNatClampNeg (some s0)) (pr_sR K26 Hs2 Hs0) Hx0 Hx1 Hx2 hi
set_option maxHeartbeats 4000000 in
set_option maxRecDepth 100000 in
theorem rgX5_init {A : Nat → Prop} {h0 h : pm_H} (K0 : pr_F A h0 h) {a0 : Nat} {p1 : Nat} (Ha0 : A a0) (Hp1 : A p1) {r : pm_H} (hf : fX5_init h a0 p1 = some r) : pr_F A h0 r := by
  unfold fX5_init at hf
  obtain ⟨n, hn⟩ := pm_lim_iter hf
  exact (rlX5_init n).1 a0 p1 h K0 Ha0 Hp1 hn
set_option maxHeartbeats 4000000 in
set_option maxRecDepth 100000 in
theorem rlX6_grow {A : Nat → Prop} {h0 : pm_H} {r : (Int32 × pm_H)} : ∀ n : Nat, (∀ (x0 : Nat) (x1 : Int32) (x2 : Int64) (h : pm_H), pr_F A h0 h → A x0 → pm_iter sX6_grow n (.inl (x0, x1, x2, h)) = some r → pr_F A h0 r.2) ∧ (∀ (x0 : Nat) (x1 : Int32) (x2 : Int64) (x4 : Int32) (s0 : Int64) (h : pm_H), pr_F A h0 h → A x0 → pm_iter sX6_grow n (.inr (.inl (x0, x1, x2, x4, s0, h))) = some r → pr_F A h0 r.2) ∧ (∀ (x0 : Nat) (x1 : Int32) (x2 : Int64) (x4 : Int32) (x7 : Int32) (h : pm_H), pr_F A h0 h → A x0 → pm_iter sX6_grow n (.inr (.inr (.inl (x0, x1, x2, x4, x7, h)))) = some r → pr_F A h0 r.2) ∧ (∀ (x0 : Nat) (x1 : Int32) (x2 : Int64) (x4 : Int32) (x7 : Int32) (s0 : Nat) (s1 : Int32) (s2 : Nat) (h : pm_H), pr_F A h0 h → A x0 → A s0 → A s2 → pm_iter sX6_grow n (.inr (.inr (.inr (x0, x1, x2, x4, x7, s0, s1, s2, h)))) = some r → pr_F A h0 r.2) := by
  intro n
  induction n with
  | zero => exact ⟨fun _ _ _ _ _ _ hf => (by cases hf), fun _ _ _ _ _ _ _ _ hf => (by cases hf), fun _ _ _ _ _ _ _ _ hf => (by cases hf), fun _ _ _ _ _ _ _ _ _ _ _ _ _ hf => (by cases hf)⟩
  | succ n ih =>
    refine ⟨fun x0 x1 x2 h K0 Hx0 hf => ?_, ?_⟩
    · obtain ⟨y, hf, hi⟩ := pm_iter_s hf
      have hf : tX6_grow_0 x0 x1 x2 h = some y := hf
      unfold tX6_grow_0 at hf
      obtain ⟨k1, hf⟩ := pm_if hf
      obtain ⟨v2, e3, hf⟩ := pm_bd hf
      obtain ⟨v4, e5, hf⟩ := pm_bd hf
      obtain ⟨v6, e7, hf⟩ := pm_bd hf
      obtain ⟨v8, e9, hf⟩ := pm_bd hf
      by_cases c10 : 0 ≤ v8
      · have hf := pm_it hf c10
        obtain ⟨v11, e12, hf⟩ := pm_bd hf
        cases hf
        exact ih.2.1 x0 x1 x2 v4 v11 h K0 Hx0 hi
      · have hf := pm_ie hf c10
        cases hf
        exact ih.2.1 x0 x1 x2 v4 65536 h K0 Hx0 hi
    refine ⟨fun x0 x1 x2 x4 s0 h K0 Hx0 hf => ?_, ?_⟩
    · obtain ⟨y, hf, hi⟩ := pm_iter_s hf
      have hf : tX6_grow_37 x0 x1 x2 x4 s0 h = some y := hf
      unfold tX6_grow_37 at hf
      by_cases c13 : x1 < 0
      · have hf := pm_it hf c13
        have hf := Option.some.inj hf
        subst hf
        have hi := Option.some.inj (show some _ = some r from hi)
        subst hi
        exact K0
      · have hf := pm_ie hf c13
        obtain ⟨k14, hf⟩ := pm_if hf
        by_cases c15 : ((pm_I h x0 1).toInt64) < x2
        · have hf := pm_it hf c15
          have hf := Option.some.inj hf
          subst hf
          have hi := Option.some.inj (show some _ = some r from hi)
          subst hi
          exact K0
        · have hf := pm_ie hf c15
          by_cases c16 : (x4.toInt64 + x2) ≤ s0
          · have hf := pm_it hf c16
            cases hf
            exact ih.2.2.1 x0 x1 x2 x4 0 h K0 Hx0 hi
          · have hf := pm_ie hf c16
            have hf := Option.some.inj hf
            subst hf
            have hi := Option.some.inj (show some _ = some r from hi)
            subst hi
            exact K0
    refine ⟨fun x0 x1 x2 x4 x7 h K0 Hx0 hf => ?_, ?_⟩
    · obtain ⟨y, hf, hi⟩ := pm_iter_s hf
      have hf : tX6_grow_69 x0 x1 x2 x4 x7 h = some y := hf
      unfold tX6_grow_69 at hf
      by_cases c17 : x2 ≤ x7.toInt64
      · have hf := pm_it hf c17
        obtain ⟨k18, hf⟩ := pm_if hf
        obtain ⟨y19, e20, hf⟩ := pm_lt hf
        obtain ⟨v21, e22, hf⟩ := pm_bd hf
        obtain ⟨v23, e24, hf⟩ := pm_bd hf
        have K25 := rgX12_setItem (pr_sI K0 Hx0) (pr_c (pr_sI K0 Hx0) Hx0 e22) e24
        have hf := Option.some.inj hf
        subst hf
        have hi := Option.some.inj (show some _ = some r from hi)
        subst hi
        exact K25
      · have hf := pm_ie hf c17
        obtain ⟨y26, e27, hf⟩ := pm_lt hf
        obtain ⟨k28, hf⟩ := pm_if hf
        obtain ⟨v29, e30, hf⟩ := pm_bd hf
        obtain ⟨k31, hf⟩ := pm_if hf
        by_cases c32 : (Int32.ofNat (pm_ln h v29)) ≤ y26
        · have hf := pm_it hf c32
          obtain ⟨y33, e34, hf⟩ := pm_lt hf
          cases hf
          exact ih.2.2.1 x0 x1 x2 x4 y33 h K0 Hx0 hi
        · have hf := pm_ie hf c32
          cases hf
          exact ih.2.2.2 x0 x1 x2 x4 x7 (pm_sz h) y26 v29 (pm_new h 33 65536) (pr_new K0) Hx0 (pr_n K0) (pr_c K0 Hx0 e30) hi
    refine fun x0 x1 x2 x4 x7 s0 s1 s2 h K0 Hx0 Hs0 Hs2 hf => ?_
    obtain ⟨y, hf, hi⟩ := pm_iter_s hf
    have hf : tX6_grow_109 x0 x1 x2 x4 x7 s0 s1 s2 h = some y := hf
    unfold tX6_grow_109 at hf
    obtain ⟨k35, hf⟩ := pm_if hf
    obtain ⟨k36, hf⟩ := pm_if hf
    obtain ⟨u37, hf⟩ := pm_if hf
    obtain ⟨y38, e39, hf⟩ := pm_lt hf
    cases hf
    exact ih.2.2.1 x0 x1 x2 x4 y38 (pm_setR h s2 s1.toNatClampNeg (some s0)) (pr_sR K0 Hs2 Hs0) Hx0 hi
set_option maxHeartbeats 4000000 in
set_option maxRecDepth 100000 in
theorem rgX6_grow {A : Nat → Prop} {h0 h : pm_H} (K0 : pr_F A h0 h) {a0 : Nat} {p1 : Int32} {p2 : Int64} (Ha0 : A a0) {r : (Int32 × pm_H)} (hf : fX6_grow h a0 p1 p2 = some r) : pr_F A h0 r.2 := by
  unfold fX6_grow at hf
  obtain ⟨n, hn⟩ := pm_lim_iter hf
  exact (rlX6_grow n).1 a0 p1 p2 h K0 Ha0 hn
set_option maxHeartbeats 4000000 in
set_option maxRecDepth 100000 in
theorem rgX7_shape_b25 {A : Nat → Prop} {h0 h : pm_H} (K0 : pr_F A h0 h) {s0 : Nat} (Hs0 : A s0) {r : (Nat × pm_H)} (hf : fX7_shape_b25 h s0 = some r) : pr_F A h0 r.2 ∧ A r.1 := by
  unfold fX7_shape_b25 at hf
  have hf := Option.some.inj hf
  subst hf
  exact ⟨K0, Hs0⟩
set_option maxHeartbeats 4000000 in
set_option maxRecDepth 100000 in
theorem rgX7_shape_b0 {A : Nat → Prop} {h0 h : pm_H} (K0 : pr_F A h0 h) {x0 : Nat} {x1 : Int32} (Hx0 : A x0) {r : (Nat × pm_H)} (hf : fX7_shape_b0 h x0 x1 = some r) : pr_F A h0 r.2 ∧ A r.1 := by
  unfold fX7_shape_b0 at hf
  by_cases c1 : x1 < 0
  · have hf := pm_it hf c1
    exact rgX7_shape_b25 (pr_new K0) (pr_n K0) hf
  · have hf := pm_ie hf c1
    obtain ⟨k2, hf⟩ := pm_if hf
    obtain ⟨v3, e4, hf⟩ := pm_bd hf
    obtain ⟨k5, hf⟩ := pm_if hf
    by_cases c6 : (Int32.ofNat (pm_ln h v3)) ≤ x1
    · have hf := pm_it hf c6
      exact rgX7_shape_b25 (pr_new K0) (pr_n K0) hf
    · have hf := pm_ie hf c6
      obtain ⟨u7, hf⟩ := pm_if hf
      obtain ⟨v8, e9, hf⟩ := pm_bd hf
      exact rgX7_shape_b25 K0 (pr_c K0 (pr_c K0 Hx0 e4) e9) hf
set_option maxHeartbeats 4000000 in
set_option maxRecDepth 100000 in
theorem rgX7_shape {A : Nat → Prop} {h0 h : pm_H} (K0 : pr_F A h0 h) {a0 : Nat} {p1 : Int32} (Ha0 : A a0) {r : (Nat × pm_H)} (hf : fX7_shape h a0 p1 = some r) : pr_F A h0 r.2 ∧ A r.1 := by
  unfold fX7_shape at hf
  exact rgX7_shape_b0 K0 Ha0 hf
set_option maxHeartbeats 4000000 in
set_option maxRecDepth 100000 in
theorem rgX7_shapeOfFunction_b12 {A : Nat → Prop} {h0 h : pm_H} (K0 : pr_F A h0 h) {s0 : Nat} (Hs0 : A s0) {r : (Nat × pm_H)} (hf : fX7_shapeOfFunction_b12 h s0 = some r) : pr_F A h0 r.2 ∧ A r.1 := by
  unfold fX7_shapeOfFunction_b12 at hf
  have hf := Option.some.inj hf
  subst hf
  exact ⟨K0, Hs0⟩
set_option maxHeartbeats 4000000 in
set_option maxRecDepth 100000 in
theorem rgX7_shapeOfFunction_b0 {A : Nat → Prop} {h0 h : pm_H} (K0 : pr_F A h0 h) {x0 : Nat} {x1 : Int32} (Hx0 : A x0) {r : (Nat × pm_H)} (hf : fX7_shapeOfFunction_b0 h x0 x1 = some r) : pr_F A h0 r.2 ∧ A r.1 := by
  unfold fX7_shapeOfFunction_b0 at hf
  obtain ⟨k1, hf⟩ := pm_if hf
  obtain ⟨v2, e3, hf⟩ := pm_bd hf
  obtain ⟨v4, e5, hf⟩ := pm_bd hf
  have K6 := rgX7_shape K0 Hx0 e5
  exact rgX7_shapeOfFunction_b12 K6.1 K6.2 hf
set_option maxHeartbeats 4000000 in
set_option maxRecDepth 100000 in
theorem rgX7_shapeOfFunction {A : Nat → Prop} {h0 h : pm_H} (K0 : pr_F A h0 h) {a0 : Nat} {p1 : Int32} (Ha0 : A a0) {r : (Nat × pm_H)} (hf : fX7_shapeOfFunction h a0 p1 = some r) : pr_F A h0 r.2 ∧ A r.1 := by
  unfold fX7_shapeOfFunction at hf
  exact rgX7_shapeOfFunction_b0 K0 Ha0 hf
set_option maxHeartbeats 4000000 in
set_option maxRecDepth 100000 in
theorem rlX7_shareImports {A : Nat → Prop} {h0 : pm_H} {r : pm_H} : ∀ n : Nat, (∀ (x0 : Nat) (h : pm_H), pr_F A h0 h → A x0 → pm_iter sX7_shareImports n (.inl (x0, h)) = some r → pr_F A h0 r) ∧ (∀ (x0 : Nat) (x1 : Int32) (h : pm_H), pr_F A h0 h → A x0 → pm_iter sX7_shareImports n (.inr (.inl (x0, x1, h))) = some r → pr_F A h0 r) ∧ (∀ (x0 : Nat) (x1 : Int32) (s0 : Nat) (h : pm_H), pr_F A h0 h → A x0 → A s0 → pm_iter sX7_shareImports n (.inr (.inr (.inl (x0, x1, s0, h)))) = some r → pr_F A h0 r) ∧ (∀ (x0 : Nat) (x1 : Int32) (x2 : Nat) (x3 : Int32) (x4 : Int32) (h : pm_H), pr_F A h0 h → A x0 → A x2 → pm_iter sX7_shareImports n (.inr (.inr (.inr (x0, x1, x2, x3, x4, h)))) = some r → pr_F A h0 r) := by
  intro n
  induction n with
  | zero => exact ⟨fun _ _ _ _ hf => (by cases hf), fun _ _ _ _ _ hf => (by cases hf), fun _ _ _ _ _ _ _ hf => (by cases hf), fun _ _ _ _ _ _ _ _ _ hf => (by cases hf)⟩
  | succ n ih =>
    refine ⟨fun x0 h K0 Hx0 hf => ?_, ?_⟩
    · obtain ⟨y, hf, hi⟩ := pm_iter_s hf
      have hf : tX7_shareImports_0 x0 h = some y := hf
      unfold tX7_shareImports_0 at hf
      cases hf
      exact ih.2.1 x0 0 h K0 Hx0 hi
    refine ⟨fun x0 x1 h K0 Hx0 hf => ?_, ?_⟩
    · obtain ⟨y, hf, hi⟩ := pm_iter_s hf
      have hf : tX7_shareImports_2 x0 x1 h = some y := hf
      unfold tX7_shareImports_2 at hf
      by_cases c1 : 4 ≤ x1
      · have hf := pm_it hf c1
        have hf := Option.some.inj hf
        subst hf
        have hi := Option.some.inj (show some _ = some r from hi)
        subst hi
        exact K0
      · have hf := pm_ie hf c1
        obtain ⟨k2, hf⟩ := pm_if hf
        obtain ⟨v3, e4, hf⟩ := pm_bd hf
        obtain ⟨y5, e6, hf⟩ := pm_lt hf
        obtain ⟨u7, hf⟩ := pm_if hf
        cases hf
        exact ih.2.2.1 x0 x1 (pm_sz h) (pm_new h 35 y5.toNatClampNeg) (pr_new K0) Hx0 (pr_n K0) hi
    refine ⟨fun x0 x1 s0 h K0 Hx0 Hs0 hf => ?_, ?_⟩
    · obtain ⟨y, hf, hi⟩ := pm_iter_s hf
      have hf : tX7_shareImports_17 x0 x1 s0 h = some y := hf
      unfold tX7_shareImports_17 at hf
      cases hf
      exact ih.2.2.2 x0 x1 s0 0 0 h K0 Hx0 Hs0 hi
    refine fun x0 x1 x2 x3 x4 h K0 Hx0 Hx2 hf => ?_
    obtain ⟨y, hf, hi⟩ := pm_iter_s hf
    have hf : tX7_shareImports_23 x0 x1 x2 x3 x4 h = some y := hf
    unfold tX7_shareImports_23 at hf
    obtain ⟨k8, hf⟩ := pm_if hf
    obtain ⟨v9, e10, hf⟩ := pm_bd hf
    obtain ⟨k11, hf⟩ := pm_if hf
    by_cases c12 : (Int32.ofNat (pm_ln h v9)) < (x4 + 6)
    · have hf := pm_it hf c12
      obtain ⟨v13, e14, hf⟩ := pm_bd hf
      have K15 := rgX7_setSpace K0 Hx0 Hx2 e14
      obtain ⟨y16, e17, hf⟩ := pm_lt hf
      cases hf
      exact ih.2.1 x0 y16 v13 K15 Hx0 hi
    · have hf := pm_ie hf c12
      obtain ⟨k18, hf⟩ := pm_if hf
      by_cases c19 : (Int32.ofNat (pm_ln h x2)) < (x3 + 6)
      · have hf := pm_it hf c19
        obtain ⟨v20, e21, hf⟩ := pm_bd hf
        have K22 := rgX7_setSpace K0 Hx0 Hx2 e21
        obtain ⟨y23, e24, hf⟩ := pm_lt hf
        cases hf
        exact ih.2.1 x0 y23 v20 K22 Hx0 hi
      · have hf := pm_ie hf c19
        obtain ⟨u25, hf⟩ := pm_if hf
        by_cases c26 : (pm_L h v9 x4.toNatClampNeg) = x1.toInt64
        · have hf := pm_it hf c26
          obtain ⟨u27, hf⟩ := pm_if hf
          obtain ⟨y28, e29, hf⟩ := pm_lt hf
          obtain ⟨y30, e31, hf⟩ := pm_lt hf
          cases hf
          exact ih.2.2.2 x0 x1 x2 y28 y30 (pm_cpL h v9 x4.toNatClampNeg x2 x3.toNatClampNeg ((6 : Int32).toNatClampNeg)) (pr_cpL K0 Hx2) Hx0 Hx2 hi
        · have hf := pm_ie hf c26
          obtain ⟨y32, e33, hf⟩ := pm_lt hf
          cases hf
          exact ih.2.2.2 x0 x1 x2 x3 y32 h K0 Hx0 Hx2 hi
set_option maxHeartbeats 4000000 in
set_option maxRecDepth 100000 in
theorem rgX7_shareImports {A : Nat → Prop} {h0 h : pm_H} (K0 : pr_F A h0 h) {a0 : Nat} (Ha0 : A a0) {r : pm_H} (hf : fX7_shareImports h a0 = some r) : pr_F A h0 r := by
  unfold fX7_shareImports at hf
  obtain ⟨n, hn⟩ := pm_lim_iter hf
  exact (rlX7_shareImports n).1 a0 h K0 Ha0 hn
set_option maxHeartbeats 4000000 in
set_option maxRecDepth 100000 in
theorem rgX9_closeSection_b35 {A : Nat → Prop} {h0 h : pm_H} (K0 : pr_F A h0 h) {x0 : Nat} (Hx0 : A x0) {r : pm_H} (hf : fX9_closeSection_b35 h x0 = some r) : pr_F A h0 r := by
  unfold fX9_closeSection_b35 at hf
  obtain ⟨k14, hf⟩ := pm_if hf
  obtain ⟨v15, e16, hf⟩ := pm_bd hf
  obtain ⟨k17, hf⟩ := pm_if hf
  obtain ⟨v18, e19, hf⟩ := pm_bd hf
  obtain ⟨k20, hf⟩ := pm_if hf
  obtain ⟨y21, e22, hf⟩ := pm_lt hf
  have hf := Option.some.inj hf
  subst hf
  exact (pr_sI (pr_sI K0 Hx0) Hx0)
set_option maxHeartbeats 4000000 in
set_option maxRecDepth 100000 in
theorem rgX9_closeSection_b20 {A : Nat → Prop} {h0 h : pm_H} (K0 : pr_F A h0 h) {x0 : Nat} (Hx0 : A x0) {r : pm_H} (hf : fX9_closeSection_b20 h x0 = some r) : pr_F A h0 r := by
  unfold fX9_closeSection_b20 at hf
  obtain ⟨k6, hf⟩ := pm_if hf
  by_cases c7 : (pm_I h x0 10) = 2
  · have hf := pm_it hf c7
    obtain ⟨v8, e9, hf⟩ := pm_bd hf
    obtain ⟨k10, hf⟩ := pm_if hf
    obtain ⟨v11, e12, hf⟩ := pm_bd hf
    have K13 := rgX7_shareImports K0 (pr_c K0 Hx0 e9) e12
    exact rgX9_closeSection_b35 K13 Hx0 hf
  · have hf := pm_ie hf c7
    exact rgX9_closeSection_b35 K0 Hx0 hf
set_option maxHeartbeats 4000000 in
set_option maxRecDepth 100000 in
theorem rgX9_closeSection_b0 {A : Nat → Prop} {h0 h : pm_H} (K0 : pr_F A h0 h) {x0 : Nat} (Hx0 : A x0) {r : pm_H} (hf : fX9_closeSection_b0 h x0 = some r) : pr_F A h0 r := by
  unfold fX9_closeSection_b0 at hf
  obtain ⟨k1, hf⟩ := pm_if hf
  by_cases c2 : (pm_I h x0 2) ≤ (pm_I h x0 1)
  · have hf := pm_it hf c2
    exact rgX9_closeSection_b20 K0 Hx0 hf
  · have hf := pm_ie hf c2
    obtain ⟨v3, e4, hf⟩ := pm_bd hf
    have K5 := rgX9_fail K0 Hx0 e4
    exact rgX9_closeSection_b20 K5 Hx0 hf
set_option maxHeartbeats 4000000 in
set_option maxRecDepth 100000 in
theorem rgX9_closeSection {A : Nat → Prop} {h0 h : pm_H} (K0 : pr_F A h0 h) {a0 : Nat} (Ha0 : A a0) {r : pm_H} (hf : fX9_closeSection h a0 = some r) : pr_F A h0 r := by
  unfold fX9_closeSection at hf
  exact rgX9_closeSection_b0 K0 Ha0 hf
set_option maxHeartbeats 4000000 in
set_option maxRecDepth 100000 in
theorem rgX9_init_b18 {A : Nat → Prop} {h0 h : pm_H} (K0 : pr_F A h0 h) {x0 : Nat} {x1 : Nat} {s0 : Nat} {s1 : Nat} (Hx0 : A x0) (Hx1 : A x1) (Hs0 : A s0) (Hs1 : A s1) {r : pm_H} (hf : fX9_init_b18 h x0 x1 s0 s1 = some r) : pr_F A h0 r := by
  unfold fX9_init_b18 at hf
  obtain ⟨k2, hf⟩ := pm_if hf
  obtain ⟨k3, hf⟩ := pm_if hf
  have hf := Option.some.inj hf
  subst hf
  exact (pr_sR (pr_sR K0 Hs1 Hs0) Hx0 Hx1)
set_option maxHeartbeats 4000000 in
set_option maxRecDepth 100000 in
theorem rgX9_init_b10 {A : Nat → Prop} {h0 h : pm_H} (K0 : pr_F A h0 h) {x0 : Nat} {x1 : Nat} {s0 : Nat} {s1 : Nat} (Hx0 : A x0) (Hx1 : A x1) (Hs0 : A s0) (Hs1 : A s1) {r : pm_H} (hf : fX9_init_b10 h x0 x1 s0 s1 = some r) : pr_F A h0 r := by
  unfold fX9_init_b10 at hf
  obtain ⟨k1, hf⟩ := pm_if hf
  exact rgX9_init_b18 (pr_new (pr_sR K0 Hs1 Hs0)) Hx0 Hx1 (pr_n (pr_sR K0 Hs1 Hs0)) Hx0 hf
set_option maxHeartbeats 4000000 in
set_option maxRecDepth 100000 in
theorem rgX9_init_b0 {A : Nat → Prop} {h0 h : pm_H} (K0 : pr_F A h0 h) {x0 : Nat} {x1 : Nat} (Hx0 : A x0) (Hx1 : A x1) {r : pm_H} (hf : fX9_init_b0 h x0 x1 = some r) : pr_F A h0 r := by
  unfold fX9_init_b0 at hf
  exact rgX9_init_b10 (pr_new K0) Hx0 Hx1 (pr_n K0) Hx0 hf
set_option maxHeartbeats 4000000 in
set_option maxRecDepth 100000 in
theorem rgX9_init {A : Nat → Prop} {h0 h : pm_H} (K0 : pr_F A h0 h) {a0 : Nat} {p1 : Nat} (Ha0 : A a0) (Hp1 : A p1) {r : pm_H} (hf : fX9_init h a0 p1 = some r) : pr_F A h0 r := by
  unfold fX9_init at hf
  exact rgX9_init_b0 K0 Ha0 Hp1 hf
set_option maxHeartbeats 4000000 in
set_option maxRecDepth 100000 in
theorem rlX10_fillElement {A : Nat → Prop} {h0 : pm_H} {r : pm_H} : ∀ n : Nat, (∀ (x0 : Nat) (x1 : Nat) (x2 : Int32) (h : pm_H), pr_F A h0 h → A x0 → A x1 → pm_iter sX10_fillElement n (.inl (x0, x1, x2, h)) = some r → pr_F A h0 r) ∧ (∀ (x0 : Nat) (x1 : Nat) (x2 : Int32) (x3 : Int32) (x4 : Int32) (s0 : Int32) (h : pm_H), pr_F A h0 h → A x0 → A x1 → pm_iter sX10_fillElement n (.inr (.inl (x0, x1, x2, x3, x4, s0, h))) = some r → pr_F A h0 r) ∧ (∀ (x0 : Nat) (x1 : Nat) (x2 : Int32) (x3 : Int32) (x4 : Int32) (x5 : Int32) (s0 : Nat) (h : pm_H), pr_F A h0 h → A x0 → A x1 → A s0 → pm_iter sX10_fillElement n (.inr (.inr (.inl (x0, x1, x2, x3, x4, x5, s0, h)))) = some r → pr_F A h0 r) ∧ (∀ (x0 : Nat) (x1 : Nat) (x2 : Int32) (x4 : Int32) (x5 : Int32) (x6 : Nat) (x7 : Int32) (h : pm_H), pr_F A h0 h → A x0 → A x1 → A x6 → pm_iter sX10_fillElement n (.inr (.inr (.inr (x0, x1, x2, x4, x5, x6, x7, h)))) = some r → pr_F A h0 r) := by
  intro n
  induction n with
  | zero => exact ⟨fun _ _ _ _ _ _ _ hf => (by cases hf), fun _ _ _ _ _ _ _ _ _ _ hf => (by cases hf), fun _ _ _ _ _ _ _ _ _ _ _ _ hf => (by cases hf), fun _ _ _ _ _ _ _ _ _ _ _ _ hf => (by cases hf)⟩
  | succ n ih =>
    refine ⟨fun x0 x1 x2 h K0 Hx0 Hx1 hf => ?_, ?_⟩
    · obtain ⟨y, hf, hi⟩ := pm_iter_s hf
      have hf : tX10_fillElement_0 x0 x1 x2 h = some y := hf
      unfold tX10_fillElement_0 at hf
      obtain ⟨y1, e2, hf⟩ := pm_lt hf
      obtain ⟨k3, hf⟩ := pm_if hf
      obtain ⟨v4, e5, hf⟩ := pm_bd hf
      obtain ⟨k6, hf⟩ := pm_if hf
      obtain ⟨v7, e8, hf⟩ := pm_bd hf
      obtain ⟨v9, e10, hf⟩ := pm_bd hf
      obtain ⟨v11, e12, hf⟩ := pm_bd hf
      by_cases c13 : v11 = 0
      · have hf := pm_it hf c13
        cases hf
        exact ih.2.1 x0 x1 x2 y1 v9 0 h K0 Hx0 Hx1 hi
      · have hf := pm_ie hf c13
        cases hf
        exact ih.2.1 x0 x1 x2 y1 v9 1 h K0 Hx0 Hx1 hi
    refine ⟨fun x0 x1 x2 x3 x4 s0 h K0 Hx0 Hx1 hf => ?_, ?_⟩
    · obtain ⟨y, hf, hi⟩ := pm_iter_s hf
      have hf : tX10_fillElement_42 x0 x1 x2 x3 x4 s0 h = some y := hf
      unfold tX10_fillElement_42 at hf
      by_cases c14 : x4 < 0
      · have hf := pm_it hf c14
        have hf := Option.some.inj hf
        subst hf
        have hi := Option.some.inj (show some _ = some r from hi)
        subst hi
        exact K0
      · have hf := pm_ie hf c14
        obtain ⟨k15, hf⟩ := pm_if hf
        by_cases c16 : (pm_I h x0 17) < x4
        · have hf := pm_it hf c16
          have hf := Option.some.inj hf
          subst hf
          have hi := Option.some.inj (show some _ = some r from hi)
          subst hi
          exact K0
        · have hf := pm_ie hf c16
          by_cases c17 : x2 < 0
          · have hf := pm_it hf c17
            have hf := Option.some.inj hf
            subst hf
            have hi := Option.some.inj (show some _ = some r from hi)
            subst hi
            exact K0
          · have hf := pm_ie hf c17
            obtain ⟨k18, hf⟩ := pm_if hf
            obtain ⟨v19, e20, hf⟩ := pm_bd hf
            obtain ⟨k21, hf⟩ := pm_if hf
            by_cases c22 : x2 < (Int32.ofNat (pm_ln h v19))
            · have hf := pm_it hf c22
              obtain ⟨u23, hf⟩ := pm_if hf
              cases hf
              exact ih.2.2.1 x0 x1 x2 x3 x4 s0 (pm_sz h) (pm_new h 34 x4.toNatClampNeg) (pr_new K0) Hx0 Hx1 (pr_n K0) hi
            · have hf := pm_ie hf c22
              have hf := Option.some.inj hf
              subst hf
              have hi := Option.some.inj (show some _ = some r from hi)
              subst hi
              exact K0
    refine ⟨fun x0 x1 x2 x3 x4 x5 s0 h K0 Hx0 Hx1 Hs0 hf => ?_, ?_⟩
    · obtain ⟨y, hf, hi⟩ := pm_iter_s hf
      have hf : tX10_fillElement_76 x0 x1 x2 x3 x4 x5 s0 h = some y := hf
      unfold tX10_fillElement_76 at hf
      obtain ⟨k24, hf⟩ := pm_if hf
      obtain ⟨v25, e26, hf⟩ := pm_bd hf
      obtain ⟨k27, hf⟩ := pm_if hf
      obtain ⟨v28, e29, hf⟩ := pm_bd hf
      obtain ⟨k30, hf⟩ := pm_if hf
      obtain ⟨v31, e32, hf⟩ := pm_bd hf
      obtain ⟨v33, e34, hf⟩ := pm_bd hf
      obtain ⟨k35, hf⟩ := pm_if hf
      obtain ⟨v36, e37, hf⟩ := pm_bd hf
      have K38 := rgX9_open K0 (pr_c K0 Hx0 e26) (pr_c K0 Hx1 e29) e37
      cases hf
      exact ih.2.2.2 x0 x1 x2 x4 x5 s0 0 v36 K38 Hx0 Hx1 Hs0 hi
    refine fun x0 x1 x2 x4 x5 x6 x7 h K0 Hx0 Hx1 Hx6 hf => ?_
    obtain ⟨y, hf, hi⟩ := pm_iter_s hf
    have hf : tX10_fillElement_105 x0 x1 x2 x4 x5 x6 x7 h = some y := hf
    unfold tX10_fillElement_105 at hf
    by_cases c39 : x4 ≤ x7
    · have hf := pm_it hf c39
      obtain ⟨k40, hf⟩ := pm_if hf
      obtain ⟨v41, e42, hf⟩ := pm_bd hf
      obtain ⟨k43, hf⟩ := pm_if hf
      obtain ⟨k44, hf⟩ := pm_if hf
      obtain ⟨u45, hf⟩ := pm_if hf
      obtain ⟨v46, e47, hf⟩ := pm_bd hf
      obtain ⟨v48, e49, hf⟩ := pm_bd hf
      have K50 := rgX12_setItem (pr_sR K0 (pr_c K0 Hx1 e42) Hx6) (pr_c (pr_sR K0 (pr_c K0 Hx1 e42) Hx6) Hx1 e47) e49
      obtain ⟨k51, hf⟩ := pm_if hf
      obtain ⟨y52, e53, hf⟩ := pm_lt hf
      have hf := Option.some.inj hf
      subst hf
      have hi := Option.some.inj (show some _ = some r from hi)
      subst hi
      exact (pr_sI K50 Hx0)
    · have hf := pm_ie hf c39
      by_cases c54 : x5 = 0
      · have hf := pm_it hf c54
        obtain ⟨k55, hf⟩ := pm_if hf
        obtain ⟨v56, e57, hf⟩ := pm_bd hf
        obtain ⟨k58, hf⟩ := pm_if hf
        obtain ⟨v59, e60, hf⟩ := pm_bd hf
        obtain ⟨k61, hf⟩ := pm_if hf
        obtain ⟨v62, e63, hf⟩ := pm_bd hf
        have K64 := rgX9_number K0 (pr_c K0 Hx0 e60) e63
        obtain ⟨v65, e66, hf⟩ := pm_lt hf
        obtain ⟨v67, e68, hf⟩ := pm_bd hf
        obtain ⟨k69, hf⟩ := pm_if hf
        obtain ⟨u70, hf⟩ := pm_if hf
        obtain ⟨y71, e72, hf⟩ := pm_lt hf
        cases hf
        exact ih.2.2.2 x0 x1 x2 x4 x5 x6 y71 (pm_setI v62.2 x6 x7.toNatClampNeg v67) (pr_sI K64 Hx6) Hx0 Hx1 Hx6 hi
      · have hf := pm_ie hf c54
        obtain ⟨k73, hf⟩ := pm_if hf
        obtain ⟨v74, e75, hf⟩ := pm_bd hf
        have K76 := rgX10_constant K0 Hx0 Hx1 e75
        obtain ⟨k77, hf⟩ := pm_if hf
        obtain ⟨u78, hf⟩ := pm_if hf
        obtain ⟨y79, e80, hf⟩ := pm_lt hf
        cases hf
        exact ih.2.2.2 x0 x1 x2 x4 x5 x6 y79 (pm_setI v74.2 x6 x7.toNatClampNeg v74.1.toInt32) (pr_sI K76 Hx6) Hx0 Hx1 Hx6 hi
set_option maxHeartbeats 4000000 in
set_option maxRecDepth 100000 in
theorem rgX10_fillElement {A : Nat → Prop} {h0 h : pm_H} (K0 : pr_F A h0 h) {a0 : Nat} {p1 : Nat} {p2 : Int32} (Ha0 : A a0) (Hp1 : A p1) {r : pm_H} (hf : fX10_fillElement h a0 p1 p2 = some r) : pr_F A h0 r := by
  unfold fX10_fillElement at hf
  obtain ⟨n, hn⟩ := pm_lim_iter hf
  exact (rlX10_fillElement n).1 a0 p1 p2 h K0 Ha0 Hp1 hn
set_option maxHeartbeats 4000000 in
set_option maxRecDepth 100000 in
theorem rgX10_fits_b214 {A : Nat → Prop} {h0 h : pm_H} (K0 : pr_F A h0 h) {x0 : Nat} {x1 : Nat} {x2 : Int32} {x4 : Int32} {x6 : Int64} {s0 : Int32} (Hx0 : A x0) (Hx1 : A x1) {r : (Int32 × pm_H)} (hf : fX10_fits_b214 h x0 x1 x2 x4 x6 s0 = some r) : pr_F A h0 r.2 := by
  unfold fX10_fits_b214 at hf
  obtain ⟨k67, hf⟩ := pm_if hf
  obtain ⟨v68, e69, hf⟩ := pm_bd hf
  obtain ⟨v70, e71, hf⟩ := pm_bd hf
  by_cases c72 : v70.toInt64 = x6
  · have hf := pm_it hf c72
    obtain ⟨k73, hf⟩ := pm_if hf
    obtain ⟨v74, e75, hf⟩ := pm_bd hf
    obtain ⟨v76, e77, hf⟩ := pm_bd hf
    by_cases c78 : v76 = 1
    · have hf := pm_it hf c78
      by_cases c79 : s0 = 1
      · have hf := pm_it hf c79
        have hf := Option.some.inj hf
        subst hf
        exact K0
      · have hf := pm_ie hf c79
        have hf := Option.some.inj hf
        subst hf
        exact K0
    · have hf := pm_ie hf c78
      by_cases c80 : s0 = 0
      · have hf := pm_it hf c80
        have hf := Option.some.inj hf
        subst hf
        exact K0
      · have hf := pm_ie hf c80
        have hf := Option.some.inj hf
        subst hf
        exact K0
  · have hf := pm_ie hf c72
    have hf := Option.some.inj hf
    subst hf
    exact K0
set_option maxHeartbeats 4000000 in
set_option maxRecDepth 100000 in
theorem rgX10_fits_b213 {A : Nat → Prop} {h0 h : pm_H} (K0 : pr_F A h0 h) {x0 : Nat} {x1 : Nat} {x2 : Int32} {x4 : Int32} {x6 : Int64} (Hx0 : A x0) (Hx1 : A x1) {r : (Int32 × pm_H)} (hf : fX10_fits_b213 h x0 x1 x2 x4 x6 = some r) : pr_F A h0 r.2 := by
  unfold fX10_fits_b213 at hf
  exact rgX10_fits_b214 K0 Hx0 Hx1 hf
set_option maxHeartbeats 4000000 in
set_option maxRecDepth 100000 in
theorem rgX10_fits_b89 {A : Nat → Prop} {h0 h : pm_H} (K0 : pr_F A h0 h) {s0 : Nat} {s1 : Nat} (Hs0 : A s0) (Hs1 : A s1) {r : (Int32 × pm_H)} (hf : fX10_fits_b89 h s0 s1 = some r) : pr_F A h0 r.2 := by
  unfold fX10_fits_b89 at hf
  obtain ⟨v64, e65, hf⟩ := pm_bd hf
  obtain ⟨u66, hf⟩ := pm_if hf
  have hf := Option.some.inj hf
  subst hf
  exact K0
set_option maxHeartbeats 4000000 in
set_option maxRecDepth 100000 in
theorem rgX10_fits_b0 {A : Nat → Prop} {h0 h : pm_H} (K0 : pr_F A h0 h) {x0 : Nat} {x1 : Nat} {x2 : Int32} {x3 : Int32} {x4 : Int32} (Hx0 : A x0) (Hx1 : A x1) {r : (Int32 × pm_H)} (hf : fX10_fits_b0 h x0 x1 x2 x3 x4 = some r) : pr_F A h0 r.2 := by
  unfold fX10_fits_b0 at hf
  obtain ⟨k1, hf⟩ := pm_if hf
  obtain ⟨v2, e3, hf⟩ := pm_bd hf
  obtain ⟨v4, e5, hf⟩ := pm_bd hf
  obtain ⟨v6, e7, hf⟩ := pm_bd hf
  by_cases c8 : x3 = (-1)
  · have hf := pm_it hf c8
    by_cases c9 : v4.toInt32 = 0
    · have hf := pm_it hf c9
      have hf := Option.some.inj hf
      subst hf
      exact K0
    · have hf := pm_ie hf c9
      have hf := Option.some.inj hf
      subst hf
      exact K0
  · have hf := pm_ie hf c8
    by_cases c10 : x3 = v4.toInt32
    · have hf := pm_it hf c10
      by_cases c11 : x3 = 0
      · have hf := pm_it hf c11
        obtain ⟨k12, hf⟩ := pm_if hf
        obtain ⟨v13, e14, hf⟩ := pm_bd hf
        have K15 := rgX10_shapeOf K0 Hx0 e14
        obtain ⟨v16, e17, hf⟩ := pm_bd hf
        have K18 := rgX7_shape K0 Hx1 e17
        exact rgX10_fits_b89 K18.1 K18.2 K15 hf
      have hf := pm_ie hf c11
      by_cases c19 : x3 = 1
      · have hf := pm_it hf c19
        obtain ⟨k20, hf⟩ := pm_if hf
        obtain ⟨v21, e22, hf⟩ := pm_bd hf
        obtain ⟨k23, hf⟩ := pm_if hf
        obtain ⟨v24, e25, hf⟩ := pm_bd hf
        obtain ⟨v26, e27, hf⟩ := pm_bd hf
        by_cases c28 : v26.toInt64 = v6
        · have hf := pm_it hf c28
          obtain ⟨v29, e30, hf⟩ := pm_bd hf
          obtain ⟨v31, e32, hf⟩ := pm_bd hf
          obtain ⟨v33, e34, hf⟩ := pm_bd hf
          obtain ⟨v35, e36, hf⟩ := pm_bd hf
          obtain ⟨v37, e38, hf⟩ := pm_bd hf
          by_cases c39 : v37 = 0
          · have hf := pm_it hf c39
            have hf := Option.some.inj hf
            subst hf
            exact K0
          · have hf := pm_ie hf c39
            have hf := Option.some.inj hf
            subst hf
            exact K0
        · have hf := pm_ie hf c28
          have hf := Option.some.inj hf
          subst hf
          exact K0
      have hf := pm_ie hf c19
      by_cases c40 : x3 = 2
      · have hf := pm_it hf c40
        obtain ⟨k41, hf⟩ := pm_if hf
        obtain ⟨v42, e43, hf⟩ := pm_bd hf
        obtain ⟨k44, hf⟩ := pm_if hf
        obtain ⟨v45, e46, hf⟩ := pm_bd hf
        obtain ⟨v47, e48, hf⟩ := pm_bd hf
        obtain ⟨v49, e50, hf⟩ := pm_bd hf
        obtain ⟨v51, e52, hf⟩ := pm_bd hf
        obtain ⟨v53, e54, hf⟩ := pm_bd hf
        obtain ⟨u55, hf⟩ := pm_if hf
        have hf := Option.some.inj hf
        subst hf
        exact K0
      have hf := pm_ie hf c40
      by_cases c56 : x4 < 0
      · have hf := pm_it hf c56
        exact rgX10_fits_b213 K0 Hx0 Hx1 hf
      · have hf := pm_ie hf c56
        by_cases c57 : 256 ≤ x4
        · have hf := pm_it hf c57
          exact rgX10_fits_b213 K0 Hx0 Hx1 hf
        · have hf := pm_ie hf c57
          obtain ⟨k58, hf⟩ := pm_if hf
          obtain ⟨v59, e60, hf⟩ := pm_bd hf
          obtain ⟨k61, hf⟩ := pm_if hf
          obtain ⟨u62, hf⟩ := pm_if hf
          by_cases c63 : (pm_I h v59 x4.toNatClampNeg) = 0
          · have hf := pm_it hf c63
            exact rgX10_fits_b213 K0 Hx0 Hx1 hf
          · have hf := pm_ie hf c63
            exact rgX10_fits_b214 K0 Hx0 Hx1 hf
    · have hf := pm_ie hf c10
      have hf := Option.some.inj hf
      subst hf
      exact K0
set_option maxHeartbeats 4000000 in
set_option maxRecDepth 100000 in
theorem rgX10_fits {A : Nat → Prop} {h0 h : pm_H} (K0 : pr_F A h0 h) {a0 : Nat} {p1 : Nat} {p2 : Int32} {p3 : Int32} {p4 : Int32} (Ha0 : A a0) (Hp1 : A p1) {r : (Int32 × pm_H)} (hf : fX10_fits h a0 p1 p2 p3 p4 = some r) : pr_F A h0 r.2 := by
  unfold fX10_fits at hf
  exact rgX10_fits_b0 K0 Ha0 Hp1 hf
set_option maxHeartbeats 4000000 in
set_option maxRecDepth 100000 in
theorem rlX10_refusal {A : Nat → Prop} {h0 : pm_H} {r : (Int32 × pm_H)} : ∀ n : Nat, (∀ (x0 : Nat) (x1 : Nat) (x2 : Nat) (x3 : Int32) (h : pm_H), pr_F A h0 h → A x0 → A x1 → A x2 → pm_iter sX10_refusal n (.inl (x0, x1, x2, x3, h)) = some r → pr_F A h0 r.2) ∧ (∀ (x0 : Nat) (x1 : Nat) (x2 : Nat) (x3 : Int32) (x4 : Int32) (h : pm_H), pr_F A h0 h → A x0 → A x1 → A x2 → pm_iter sX10_refusal n (.inr (.inl (x0, x1, x2, x3, x4, h))) = some r → pr_F A h0 r.2) ∧ (∀ (x0 : Nat) (x1 : Nat) (x2 : Nat) (x3 : Int32) (x4 : Int32) (s0 : Int32) (h : pm_H), pr_F A h0 h → A x0 → A x1 → A x2 → pm_iter sX10_refusal n (.inr (.inr (x0, x1, x2, x3, x4, s0, h))) = some r → pr_F A h0 r.2) := by
  intro n
  induction n with
  | zero => exact ⟨fun _ _ _ _ _ _ _ _ _ hf => (by cases hf), fun _ _ _ _ _ _ _ _ _ _ hf => (by cases hf), fun _ _ _ _ _ _ _ _ _ _ _ hf => (by cases hf)⟩
  | succ n ih =>
    refine ⟨fun x0 x1 x2 x3 h K0 Hx0 Hx1 Hx2 hf => ?_, ?_⟩
    · obtain ⟨y, hf, hi⟩ := pm_iter_s hf
      have hf : tX10_refusal_0 x0 x1 x2 x3 h = some y := hf
      unfold tX10_refusal_0 at hf
      obtain ⟨k1, hf⟩ := pm_if hf
      obtain ⟨v2, e3, hf⟩ := pm_bd hf
      obtain ⟨k4, hf⟩ := pm_if hf
      by_cases c5 : x3 = ((Int32.ofNat (pm_ln h v2)) / 6)
      · have hf := pm_it hf c5
        cases hf
        exact ih.2.1 x0 x1 x2 x3 0 h K0 Hx0 Hx1 Hx2 hi
      · have hf := pm_ie hf c5
        have hf := Option.some.inj hf
        subst hf
        have hi := Option.some.inj (show some _ = some r from hi)
        subst hi
        exact K0
    refine ⟨fun x0 x1 x2 x3 x4 h K0 Hx0 Hx1 Hx2 hf => ?_, ?_⟩
    · obtain ⟨y, hf, hi⟩ := pm_iter_s hf
      have hf : tX10_refusal_18 x0 x1 x2 x3 x4 h = some y := hf
      unfold tX10_refusal_18 at hf
      by_cases c6 : x3 ≤ x4
      · have hf := pm_it hf c6
        obtain ⟨k7, hf⟩ := pm_if hf
        obtain ⟨v8, e9, hf⟩ := pm_bd hf
        by_cases c10 : v8 = 0
        · have hf := pm_it hf c10
          have hf := Option.some.inj hf
          subst hf
          have hi := Option.some.inj (show some _ = some r from hi)
          subst hi
          exact K0
        · have hf := pm_ie hf c10
          have hf := Option.some.inj hf
          subst hf
          have hi := Option.some.inj (show some _ = some r from hi)
          subst hi
          exact K0
      · have hf := pm_ie hf c6
        obtain ⟨v11, e12, hf⟩ := pm_bd hf
        obtain ⟨v13, e14, hf⟩ := pm_bd hf
        obtain ⟨k15, hf⟩ := pm_if hf
        obtain ⟨v16, e17, hf⟩ := pm_bd hf
        have K18 := rgX10_fits K0 Hx0 Hx1 e17
        cases hf
        exact ih.2.2 x0 x1 x2 x3 x4 v16.1 v16.2 K18 Hx0 Hx1 Hx2 hi
    refine fun x0 x1 x2 x3 x4 s0 h K0 Hx0 Hx1 Hx2 hf => ?_
    obtain ⟨y, hf, hi⟩ := pm_iter_s hf
    have hf : tX10_refusal_52 x0 x1 x2 x3 x4 s0 h = some y := hf
    unfold tX10_refusal_52 at hf
    by_cases c19 : s0 = 0
    · have hf := pm_it hf c19
      obtain ⟨k20, hf⟩ := pm_if hf
      obtain ⟨v21, e22, hf⟩ := pm_bd hf
      obtain ⟨v23, e24, hf⟩ := pm_bd hf
      have hf := Option.some.inj hf
      subst hf
      have hi := Option.some.inj (show some _ = some r from hi)
      subst hi
      exact K0
    · have hf := pm_ie hf c19
      obtain ⟨y25, e26, hf⟩ := pm_lt hf
      cases hf
      exact ih.2.1 x0 x1 x2 x3 y25 h K0 Hx0 Hx1 Hx2 hi
set_option maxHeartbeats 4000000 in
set_option maxRecDepth 100000 in
theorem rgX10_refusal {A : Nat → Prop} {h0 h : pm_H} (K0 : pr_F A h0 h) {a0 : Nat} {p1 : Nat} {p2 : Nat} {p3 : Int32} (Ha0 : A a0) (Hp1 : A p1) (Hp2 : A p2) {r : (Int32 × pm_H)} (hf : fX10_refusal h a0 p1 p2 p3 = some r) : pr_F A h0 r.2 := by
  unfold fX10_refusal at hf
  obtain ⟨n, hn⟩ := pm_lim_iter hf
  exact (rlX10_refusal n).1 a0 p1 p2 p3 h K0 Ha0 Hp1 Hp2 hn
set_option maxHeartbeats 4000000 in
set_option maxRecDepth 100000 in
theorem rlX14_begin {A : Nat → Prop} {h0 : pm_H} {r : pm_H} : ∀ n : Nat, (∀ (x0 : Nat) (x1 : Int32) (h : pm_H), pr_F A h0 h → A x0 → pm_iter sX14_begin n (.inl (x0, x1, h)) = some r → pr_F A h0 r) ∧ (∀ (x0 : Nat) (x1 : Int32) (s0 : Nat) (s1 : Nat) (h : pm_H), pr_F A h0 h → A x0 → A s0 → A s1 → pm_iter sX14_begin n (.inr (.inl (x0, x1, s0, s1, h))) = some r → pr_F A h0 r) ∧ (∀ (x0 : Nat) (x1 : Int32) (s0 : Nat) (s1 : Nat) (h : pm_H), pr_F A h0 h → A x0 → A s0 → A s1 → pm_iter sX14_begin n (.inr (.inr (.inl (x0, x1, s0, s1, h)))) = some r → pr_F A h0 r) ∧ (∀ (x0 : Nat) (s0 : Nat) (s1 : Nat) (h : pm_H), pr_F A h0 h → A x0 → A s0 → A s1 → pm_iter sX14_begin n (.inr (.inr (.inr (.inl (x0, s0, s1, h))))) = some r → pr_F A h0 r) ∧ (∀ (x0 : Nat) (x2 : Int32) (h : pm_H), pr_F A h0 h → A x0 → pm_iter sX14_begin n (.inr (.inr (.inr (.inr (x0, x2, h))))) = some r → pr_F A h0 r) := by
  intro n
  induction n with
  | zero => exact ⟨fun _ _ _ _ _ hf => (by cases hf), fun _ _ _ _ _ _ _ _ _ hf => (by cases hf), fun _ _ _ _ _ _ _ _ _ hf => (by cases hf), fun _ _ _ _ _ _ _ _ hf => (by cases hf), fun _ _ _ _ _ hf => (by cases hf)⟩
  | succ n ih =>
    refine ⟨fun x0 x1 h K0 Hx0 hf => ?_, ?_⟩
    · obtain ⟨y, hf, hi⟩ := pm_iter_s hf
      have hf : tX14_begin_0 x0 x1 h = some y := hf
      unfold tX14_begin_0 at hf
      obtain ⟨k1, hf⟩ := pm_if hf
      obtain ⟨u2, hf⟩ := pm_if hf
      cases hf
      exact ih.2.1 x0 x1 (pm_sz (pm_setI h x0 1 x1)) x0 (pm_new (pm_setI h x0 1 x1) 33 x1.toNatClampNeg) (pr_new (pr_sI K0 Hx0)) Hx0 (pr_n (pr_sI K0 Hx0)) Hx0 hi
    refine ⟨fun x0 x1 s0 s1 h K0 Hx0 Hs0 Hs1 hf => ?_, ?_⟩
    · obtain ⟨y, hf, hi⟩ := pm_iter_s hf
      have hf : tX14_begin_9 x0 x1 s0 s1 h = some y := hf
      unfold tX14_begin_9 at hf
      obtain ⟨k3, hf⟩ := pm_if hf
      obtain ⟨u4, hf⟩ := pm_if hf
      cases hf
      exact ih.2.2.1 x0 x1 (pm_sz (pm_setR h s1 0 (some s0))) x0 (pm_new (pm_setR h s1 0 (some s0)) 34 x1.toNatClampNeg) (pr_new (pr_sR K0 Hs1 Hs0)) Hx0 (pr_n (pr_sR K0 Hs1 Hs0)) Hx0 hi
    refine ⟨fun x0 x1 s0 s1 h K0 Hx0 Hs0 Hs1 hf => ?_, ?_⟩
    · obtain ⟨y, hf, hi⟩ := pm_iter_s hf
      have hf : tX14_begin_16 x0 x1 s0 s1 h = some y := hf
      unfold tX14_begin_16 at hf
      obtain ⟨k5, hf⟩ := pm_if hf
      obtain ⟨u6, hf⟩ := pm_if hf
      cases hf
      exact ih.2.2.2.1 x0 (pm_sz (pm_setR h s1 56 (some s0))) x0 (pm_new (pm_setR h s1 56 (some s0)) 34 x1.toNatClampNeg) (pr_new (pr_sR K0 Hs1 Hs0)) Hx0 (pr_n (pr_sR K0 Hs1 Hs0)) Hx0 hi
    refine ⟨fun x0 s0 s1 h K0 Hx0 Hs0 Hs1 hf => ?_, ?_⟩
    · obtain ⟨y, hf, hi⟩ := pm_iter_s hf
      have hf : tX14_begin_23 x0 s0 s1 h = some y := hf
      unfold tX14_begin_23 at hf
      obtain ⟨k7, hf⟩ := pm_if hf
      cases hf
      exact ih.2.2.2.2 x0 0 (pm_setR h s1 57 (some s0)) (pr_sR K0 Hs1 Hs0) Hx0 hi
    refine fun x0 x2 h K0 Hx0 hf => ?_
    obtain ⟨y, hf, hi⟩ := pm_iter_s hf
    have hf : tX14_begin_28 x0 x2 h = some y := hf
    unfold tX14_begin_28 at hf
    by_cases c8 : 13 ≤ x2
    · have hf := pm_it hf c8
      obtain ⟨k9, hf⟩ := pm_if hf
      have hf := Option.some.inj hf
      subst hf
      have hi := Option.some.inj (show some _ = some r from hi)
      subst hi
      exact (pr_sL (pr_sI (pr_sL (pr_sL (pr_sI (pr_sL (pr_sI (pr_sI (pr_sI (pr_sI (pr_sI (pr_sL (pr_sI (pr_sI (pr_sI K0 Hx0) Hx0) Hx0) Hx0) Hx0) Hx0) Hx0) Hx0) Hx0) Hx0) Hx0) Hx0) Hx0) Hx0) Hx0)
    · have hf := pm_ie hf c8
      obtain ⟨k10, hf⟩ := pm_if hf
      obtain ⟨v11, e12, hf⟩ := pm_bd hf
      obtain ⟨k13, hf⟩ := pm_if hf
      obtain ⟨u14, hf⟩ := pm_if hf
      obtain ⟨y15, e16, hf⟩ := pm_lt hf
      cases hf
      exact ih.2.2.2.2 x0 y15 (pm_setI h v11 x2.toNatClampNeg (-1)) (pr_sI K0 (pr_c K0 Hx0 e12)) Hx0 hi
set_option maxHeartbeats 4000000 in
set_option maxRecDepth 100000 in
theorem rgX14_begin {A : Nat → Prop} {h0 h : pm_H} (K0 : pr_F A h0 h) {a0 : Nat} {p1 : Int32} (Ha0 : A a0) {r : pm_H} (hf : fX14_begin h a0 p1 = some r) : pr_F A h0 r := by
  unfold fX14_begin at hf
  obtain ⟨n, hn⟩ := pm_lim_iter hf
  exact (rlX14_begin n).1 a0 p1 h K0 Ha0 hn
set_option maxHeartbeats 4000000 in
set_option maxRecDepth 100000 in
theorem rgX14_init_b333 {A : Nat → Prop} {h0 h : pm_H} (K0 : pr_F A h0 h) {s0 : Nat} {s1 : Nat} (Hs0 : A s0) (Hs1 : A s1) {r : pm_H} (hf : fX14_init_b333 h s0 s1 = some r) : pr_F A h0 r := by
  unfold fX14_init_b333 at hf
  obtain ⟨k42, hf⟩ := pm_if hf
  have hf := Option.some.inj hf
  subst hf
  exact (pr_sR K0 Hs1 Hs0)
set_option maxHeartbeats 4000000 in
set_option maxRecDepth 100000 in
theorem rgX14_init_b325 {A : Nat → Prop} {h0 h : pm_H} (K0 : pr_F A h0 h) {x0 : Nat} {s0 : Nat} {s1 : Nat} (Hx0 : A x0) (Hs0 : A s0) (Hs1 : A s1) {r : pm_H} (hf : fX14_init_b325 h x0 s0 s1 = some r) : pr_F A h0 r := by
  unfold fX14_init_b325 at hf
  obtain ⟨k41, hf⟩ := pm_if hf
  exact rgX14_init_b333 (pr_new (pr_sR K0 Hs1 Hs0)) (pr_n (pr_sR K0 Hs1 Hs0)) Hx0 hf
set_option maxHeartbeats 4000000 in
set_option maxRecDepth 100000 in
theorem rgX14_init_b317 {A : Nat → Prop} {h0 h : pm_H} (K0 : pr_F A h0 h) {x0 : Nat} {s0 : Nat} {s1 : Nat} (Hx0 : A x0) (Hs0 : A s0) (Hs1 : A s1) {r : pm_H} (hf : fX14_init_b317 h x0 s0 s1 = some r) : pr_F A h0 r := by
  unfold fX14_init_b317 at hf
  obtain ⟨k40, hf⟩ := pm_if hf
  exact rgX14_init_b325 (pr_new (pr_sR K0 Hs1 Hs0)) Hx0 (pr_n (pr_sR K0 Hs1 Hs0)) Hx0 hf
set_option maxHeartbeats 4000000 in
set_option maxRecDepth 100000 in
theorem rgX14_init_b309 {A : Nat → Prop} {h0 h : pm_H} (K0 : pr_F A h0 h) {x0 : Nat} {s0 : Nat} {s1 : Nat} (Hx0 : A x0) (Hs0 : A s0) (Hs1 : A s1) {r : pm_H} (hf : fX14_init_b309 h x0 s0 s1 = some r) : pr_F A h0 r := by
  unfold fX14_init_b309 at hf
  obtain ⟨k39, hf⟩ := pm_if hf
  exact rgX14_init_b317 (pr_new (pr_sR K0 Hs1 Hs0)) Hx0 (pr_n (pr_sR K0 Hs1 Hs0)) Hx0 hf
set_option maxHeartbeats 4000000 in
set_option maxRecDepth 100000 in
theorem rgX14_init_b301 {A : Nat → Prop} {h0 h : pm_H} (K0 : pr_F A h0 h) {x0 : Nat} {s0 : Nat} {s1 : Nat} (Hx0 : A x0) (Hs0 : A s0) (Hs1 : A s1) {r : pm_H} (hf : fX14_init_b301 h x0 s0 s1 = some r) : pr_F A h0 r := by
  unfold fX14_init_b301 at hf
  obtain ⟨k38, hf⟩ := pm_if hf
  exact rgX14_init_b309 (pr_new (pr_sR K0 Hs1 Hs0)) Hx0 (pr_n (pr_sR K0 Hs1 Hs0)) Hx0 hf
set_option maxHeartbeats 4000000 in
set_option maxRecDepth 100000 in
theorem rgX14_init_b293 {A : Nat → Prop} {h0 h : pm_H} (K0 : pr_F A h0 h) {x0 : Nat} {s0 : Nat} {s1 : Nat} (Hx0 : A x0) (Hs0 : A s0) (Hs1 : A s1) {r : pm_H} (hf : fX14_init_b293 h x0 s0 s1 = some r) : pr_F A h0 r := by
  unfold fX14_init_b293 at hf
  obtain ⟨k37, hf⟩ := pm_if hf
  exact rgX14_init_b301 (pr_new (pr_sR K0 Hs1 Hs0)) Hx0 (pr_n (pr_sR K0 Hs1 Hs0)) Hx0 hf
set_option maxHeartbeats 4000000 in
set_option maxRecDepth 100000 in
theorem rgX14_init_b285 {A : Nat → Prop} {h0 h : pm_H} (K0 : pr_F A h0 h) {x0 : Nat} {s0 : Nat} {s1 : Nat} (Hx0 : A x0) (Hs0 : A s0) (Hs1 : A s1) {r : pm_H} (hf : fX14_init_b285 h x0 s0 s1 = some r) : pr_F A h0 r := by
  unfold fX14_init_b285 at hf
  obtain ⟨k36, hf⟩ := pm_if hf
  exact rgX14_init_b293 (pr_new (pr_sR K0 Hs1 Hs0)) Hx0 (pr_n (pr_sR K0 Hs1 Hs0)) Hx0 hf
set_option maxHeartbeats 4000000 in
set_option maxRecDepth 100000 in
theorem rgX14_init_b277 {A : Nat → Prop} {h0 h : pm_H} (K0 : pr_F A h0 h) {x0 : Nat} {s0 : Nat} {s1 : Nat} (Hx0 : A x0) (Hs0 : A s0) (Hs1 : A s1) {r : pm_H} (hf : fX14_init_b277 h x0 s0 s1 = some r) : pr_F A h0 r := by
  unfold fX14_init_b277 at hf
  obtain ⟨k35, hf⟩ := pm_if hf
  exact rgX14_init_b285 (pr_new (pr_sR K0 Hs1 Hs0)) Hx0 (pr_n (pr_sR K0 Hs1 Hs0)) Hx0 hf
set_option maxHeartbeats 4000000 in
set_option maxRecDepth 100000 in
theorem rgX14_init_b269 {A : Nat → Prop} {h0 h : pm_H} (K0 : pr_F A h0 h) {x0 : Nat} {s0 : Nat} {s1 : Nat} (Hx0 : A x0) (Hs0 : A s0) (Hs1 : A s1) {r : pm_H} (hf : fX14_init_b269 h x0 s0 s1 = some r) : pr_F A h0 r := by
  unfold fX14_init_b269 at hf
  obtain ⟨k34, hf⟩ := pm_if hf
  exact rgX14_init_b277 (pr_new (pr_sR K0 Hs1 Hs0)) Hx0 (pr_n (pr_sR K0 Hs1 Hs0)) Hx0 hf
set_option maxHeartbeats 4000000 in
set_option maxRecDepth 100000 in
theorem rgX14_init_b261 {A : Nat → Prop} {h0 h : pm_H} (K0 : pr_F A h0 h) {x0 : Nat} {s0 : Nat} {s1 : Nat} (Hx0 : A x0) (Hs0 : A s0) (Hs1 : A s1) {r : pm_H} (hf : fX14_init_b261 h x0 s0 s1 = some r) : pr_F A h0 r := by
  unfold fX14_init_b261 at hf
  obtain ⟨k33, hf⟩ := pm_if hf
  exact rgX14_init_b269 (pr_new (pr_sR K0 Hs1 Hs0)) Hx0 (pr_n (pr_sR K0 Hs1 Hs0)) Hx0 hf
set_option maxHeartbeats 4000000 in
set_option maxRecDepth 100000 in
theorem rgX14_init_b246 {A : Nat → Prop} {h0 h : pm_H} (K0 : pr_F A h0 h) {x0 : Nat} {s0 : Nat} {s1 : Nat} (Hx0 : A x0) (Hs0 : A s0) (Hs1 : A s1) {r : pm_H} (hf : fX14_init_b246 h x0 s0 s1 = some r) : pr_F A h0 r := by
  unfold fX14_init_b246 at hf
  obtain ⟨k31, hf⟩ := pm_if hf
  obtain ⟨k32, hf⟩ := pm_if hf
  exact rgX14_init_b261 (pr_new (pr_sL (pr_sR K0 Hs1 Hs0) Hx0)) Hx0 (pr_n (pr_sL (pr_sR K0 Hs1 Hs0) Hx0)) Hx0 hf
set_option maxHeartbeats 4000000 in
set_option maxRecDepth 100000 in
theorem rgX14_init_b238 {A : Nat → Prop} {h0 h : pm_H} (K0 : pr_F A h0 h) {x0 : Nat} {s0 : Nat} {s1 : Nat} (Hx0 : A x0) (Hs0 : A s0) (Hs1 : A s1) {r : pm_H} (hf : fX14_init_b238 h x0 s0 s1 = some r) : pr_F A h0 r := by
  unfold fX14_init_b238 at hf
  obtain ⟨k30, hf⟩ := pm_if hf
  exact rgX14_init_b246 (pr_new (pr_sR K0 Hs1 Hs0)) Hx0 (pr_n (pr_sR K0 Hs1 Hs0)) Hx0 hf
set_option maxHeartbeats 4000000 in
set_option maxRecDepth 100000 in
theorem rgX14_init_b230 {A : Nat → Prop} {h0 h : pm_H} (K0 : pr_F A h0 h) {x0 : Nat} {s0 : Nat} {s1 : Nat} (Hx0 : A x0) (Hs0 : A s0) (Hs1 : A s1) {r : pm_H} (hf : fX14_init_b230 h x0 s0 s1 = some r) : pr_F A h0 r := by
  unfold fX14_init_b230 at hf
  obtain ⟨k29, hf⟩ := pm_if hf
  exact rgX14_init_b238 (pr_new (pr_sR K0 Hs1 Hs0)) Hx0 (pr_n (pr_sR K0 Hs1 Hs0)) Hx0 hf
set_option maxHeartbeats 4000000 in
set_option maxRecDepth 100000 in
theorem rgX14_init_b222 {A : Nat → Prop} {h0 h : pm_H} (K0 : pr_F A h0 h) {x0 : Nat} {s0 : Nat} {s1 : Nat} (Hx0 : A x0) (Hs0 : A s0) (Hs1 : A s1) {r : pm_H} (hf : fX14_init_b222 h x0 s0 s1 = some r) : pr_F A h0 r := by
  unfold fX14_init_b222 at hf
  obtain ⟨k28, hf⟩ := pm_if hf
  exact rgX14_init_b230 (pr_new (pr_sR K0 Hs1 Hs0)) Hx0 (pr_n (pr_sR K0 Hs1 Hs0)) Hx0 hf
set_option maxHeartbeats 4000000 in
set_option maxRecDepth 100000 in
theorem rgX14_init_b214 {A : Nat → Prop} {h0 h : pm_H} (K0 : pr_F A h0 h) {x0 : Nat} {s0 : Nat} {s1 : Nat} (Hx0 : A x0) (Hs0 : A s0) (Hs1 : A s1) {r : pm_H} (hf : fX14_init_b214 h x0 s0 s1 = some r) : pr_F A h0 r := by
  unfold fX14_init_b214 at hf
  obtain ⟨k27, hf⟩ := pm_if hf
  exact rgX14_init_b222 (pr_new (pr_sR K0 Hs1 Hs0)) Hx0 (pr_n (pr_sR K0 Hs1 Hs0)) Hx0 hf
set_option maxHeartbeats 4000000 in
set_option maxRecDepth 100000 in
theorem rgX14_init_b206 {A : Nat → Prop} {h0 h : pm_H} (K0 : pr_F A h0 h) {x0 : Nat} {s0 : Nat} {s1 : Nat} (Hx0 : A x0) (Hs0 : A s0) (Hs1 : A s1) {r : pm_H} (hf : fX14_init_b206 h x0 s0 s1 = some r) : pr_F A h0 r := by
  unfold fX14_init_b206 at hf
  obtain ⟨k26, hf⟩ := pm_if hf
  exact rgX14_init_b214 (pr_new (pr_sR K0 Hs1 Hs0)) Hx0 (pr_n (pr_sR K0 Hs1 Hs0)) Hx0 hf
set_option maxHeartbeats 4000000 in
set_option maxRecDepth 100000 in
theorem rgX14_init_b198 {A : Nat → Prop} {h0 h : pm_H} (K0 : pr_F A h0 h) {x0 : Nat} {s0 : Nat} {s1 : Nat} (Hx0 : A x0) (Hs0 : A s0) (Hs1 : A s1) {r : pm_H} (hf : fX14_init_b198 h x0 s0 s1 = some r) : pr_F A h0 r := by
  unfold fX14_init_b198 at hf
  obtain ⟨k25, hf⟩ := pm_if hf
  exact rgX14_init_b206 (pr_new (pr_sR K0 Hs1 Hs0)) Hx0 (pr_n (pr_sR K0 Hs1 Hs0)) Hx0 hf
set_option maxHeartbeats 4000000 in
set_option maxRecDepth 100000 in
theorem rgX14_init_b183 {A : Nat → Prop} {h0 h : pm_H} (K0 : pr_F A h0 h) {x0 : Nat} {s0 : Nat} {s1 : Nat} (Hx0 : A x0) (Hs0 : A s0) (Hs1 : A s1) {r : pm_H} (hf : fX14_init_b183 h x0 s0 s1 = some r) : pr_F A h0 r := by
  unfold fX14_init_b183 at hf
  obtain ⟨k23, hf⟩ := pm_if hf
  obtain ⟨k24, hf⟩ := pm_if hf
  exact rgX14_init_b198 (pr_new (pr_sL (pr_sR K0 Hs1 Hs0) Hx0)) Hx0 (pr_n (pr_sL (pr_sR K0 Hs1 Hs0) Hx0)) Hx0 hf
set_option maxHeartbeats 4000000 in
set_option maxRecDepth 100000 in
theorem rgX14_init_b175 {A : Nat → Prop} {h0 h : pm_H} (K0 : pr_F A h0 h) {x0 : Nat} {s0 : Nat} {s1 : Nat} (Hx0 : A x0) (Hs0 : A s0) (Hs1 : A s1) {r : pm_H} (hf : fX14_init_b175 h x0 s0 s1 = some r) : pr_F A h0 r := by
  unfold fX14_init_b175 at hf
  obtain ⟨k22, hf⟩ := pm_if hf
  exact rgX14_init_b183 (pr_new (pr_sR K0 Hs1 Hs0)) Hx0 (pr_n (pr_sR K0 Hs1 Hs0)) Hx0 hf
set_option maxHeartbeats 4000000 in
set_option maxRecDepth 100000 in
theorem rgX14_init_b167 {A : Nat → Prop} {h0 h : pm_H} (K0 : pr_F A h0 h) {x0 : Nat} {s0 : Nat} {s1 : Nat} (Hx0 : A x0) (Hs0 : A s0) (Hs1 : A s1) {r : pm_H} (hf : fX14_init_b167 h x0 s0 s1 = some r) : pr_F A h0 r := by
  unfold fX14_init_b167 at hf
  obtain ⟨k21, hf⟩ := pm_if hf
  exact rgX14_init_b175 (pr_new (pr_sR K0 Hs1 Hs0)) Hx0 (pr_n (pr_sR K0 Hs1 Hs0)) Hx0 hf
set_option maxHeartbeats 4000000 in
set_option maxRecDepth 100000 in
theorem rgX14_init_b159 {A : Nat → Prop} {h0 h : pm_H} (K0 : pr_F A h0 h) {x0 : Nat} {s0 : Nat} {s1 : Nat} (Hx0 : A x0) (Hs0 : A s0) (Hs1 : A s1) {r : pm_H} (hf : fX14_init_b159 h x0 s0 s1 = some r) : pr_F A h0 r := by
  unfold fX14_init_b159 at hf
  obtain ⟨k20, hf⟩ := pm_if hf
  exact rgX14_init_b167 (pr_new (pr_sR K0 Hs1 Hs0)) Hx0 (pr_n (pr_sR K0 Hs1 Hs0)) Hx0 hf
set_option maxHeartbeats 4000000 in
set_option maxRecDepth 100000 in
theorem rgX14_init_b151 {A : Nat → Prop} {h0 h : pm_H} (K0 : pr_F A h0 h) {x0 : Nat} {s0 : Nat} {s1 : Nat} (Hx0 : A x0) (Hs0 : A s0) (Hs1 : A s1) {r : pm_H} (hf : fX14_init_b151 h x0 s0 s1 = some r) : pr_F A h0 r := by
  unfold fX14_init_b151 at hf
  obtain ⟨k19, hf⟩ := pm_if hf
  exact rgX14_init_b159 (pr_new (pr_sR K0 Hs1 Hs0)) Hx0 (pr_n (pr_sR K0 Hs1 Hs0)) Hx0 hf
set_option maxHeartbeats 4000000 in
set_option maxRecDepth 100000 in
theorem rgX14_init_b143 {A : Nat → Prop} {h0 h : pm_H} (K0 : pr_F A h0 h) {x0 : Nat} {s0 : Nat} {s1 : Nat} (Hx0 : A x0) (Hs0 : A s0) (Hs1 : A s1) {r : pm_H} (hf : fX14_init_b143 h x0 s0 s1 = some r) : pr_F A h0 r := by
  unfold fX14_init_b143 at hf
  obtain ⟨k18, hf⟩ := pm_if hf
  exact rgX14_init_b151 (pr_new (pr_sR K0 Hs1 Hs0)) Hx0 (pr_n (pr_sR K0 Hs1 Hs0)) Hx0 hf
set_option maxHeartbeats 4000000 in
set_option maxRecDepth 100000 in
theorem rgX14_init_b135 {A : Nat → Prop} {h0 h : pm_H} (K0 : pr_F A h0 h) {x0 : Nat} {s0 : Nat} {s1 : Nat} (Hx0 : A x0) (Hs0 : A s0) (Hs1 : A s1) {r : pm_H} (hf : fX14_init_b135 h x0 s0 s1 = some r) : pr_F A h0 r := by
  unfold fX14_init_b135 at hf
  obtain ⟨k17, hf⟩ := pm_if hf
  exact rgX14_init_b143 (pr_new (pr_sR K0 Hs1 Hs0)) Hx0 (pr_n (pr_sR K0 Hs1 Hs0)) Hx0 hf
set_option maxHeartbeats 4000000 in
set_option maxRecDepth 100000 in
theorem rgX14_init_b127 {A : Nat → Prop} {h0 h : pm_H} (K0 : pr_F A h0 h) {x0 : Nat} {s0 : Nat} {s1 : Nat} (Hx0 : A x0) (Hs0 : A s0) (Hs1 : A s1) {r : pm_H} (hf : fX14_init_b127 h x0 s0 s1 = some r) : pr_F A h0 r := by
  unfold fX14_init_b127 at hf
  obtain ⟨k16, hf⟩ := pm_if hf
  exact rgX14_init_b135 (pr_new (pr_sR K0 Hs1 Hs0)) Hx0 (pr_n (pr_sR K0 Hs1 Hs0)) Hx0 hf
set_option maxHeartbeats 4000000 in
set_option maxRecDepth 100000 in
theorem rgX14_init_b119 {A : Nat → Prop} {h0 h : pm_H} (K0 : pr_F A h0 h) {x0 : Nat} {s0 : Nat} {s1 : Nat} (Hx0 : A x0) (Hs0 : A s0) (Hs1 : A s1) {r : pm_H} (hf : fX14_init_b119 h x0 s0 s1 = some r) : pr_F A h0 r := by
  unfold fX14_init_b119 at hf
  obtain ⟨k15, hf⟩ := pm_if hf
  exact rgX14_init_b127 (pr_new (pr_sR K0 Hs1 Hs0)) Hx0 (pr_n (pr_sR K0 Hs1 Hs0)) Hx0 hf
set_option maxHeartbeats 4000000 in
set_option maxRecDepth 100000 in
theorem rgX14_init_b111 {A : Nat → Prop} {h0 h : pm_H} (K0 : pr_F A h0 h) {x0 : Nat} {s0 : Nat} {s1 : Nat} (Hx0 : A x0) (Hs0 : A s0) (Hs1 : A s1) {r : pm_H} (hf : fX14_init_b111 h x0 s0 s1 = some r) : pr_F A h0 r := by
  unfold fX14_init_b111 at hf
  obtain ⟨k14, hf⟩ := pm_if hf
  exact rgX14_init_b119 (pr_new (pr_sR K0 Hs1 Hs0)) Hx0 (pr_n (pr_sR K0 Hs1 Hs0)) Hx0 hf
set_option maxHeartbeats 4000000 in
set_option maxRecDepth 100000 in
theorem rgX14_init_b103 {A : Nat → Prop} {h0 h : pm_H} (K0 : pr_F A h0 h) {x0 : Nat} {s0 : Nat} {s1 : Nat} (Hx0 : A x0) (Hs0 : A s0) (Hs1 : A s1) {r : pm_H} (hf : fX14_init_b103 h x0 s0 s1 = some r) : pr_F A h0 r := by
  unfold fX14_init_b103 at hf
  obtain ⟨k13, hf⟩ := pm_if hf
  exact rgX14_init_b111 (pr_new (pr_sR K0 Hs1 Hs0)) Hx0 (pr_n (pr_sR K0 Hs1 Hs0)) Hx0 hf
set_option maxHeartbeats 4000000 in
set_option maxRecDepth 100000 in
theorem rgX14_init_b95 {A : Nat → Prop} {h0 h : pm_H} (K0 : pr_F A h0 h) {x0 : Nat} {s0 : Nat} {s1 : Nat} (Hx0 : A x0) (Hs0 : A s0) (Hs1 : A s1) {r : pm_H} (hf : fX14_init_b95 h x0 s0 s1 = some r) : pr_F A h0 r := by
  unfold fX14_init_b95 at hf
  obtain ⟨k12, hf⟩ := pm_if hf
  exact rgX14_init_b103 (pr_new (pr_sR K0 Hs1 Hs0)) Hx0 (pr_n (pr_sR K0 Hs1 Hs0)) Hx0 hf
set_option maxHeartbeats 4000000 in
set_option maxRecDepth 100000 in
theorem rgX14_init_b87 {A : Nat → Prop} {h0 h : pm_H} (K0 : pr_F A h0 h) {x0 : Nat} {s0 : Nat} {s1 : Nat} (Hx0 : A x0) (Hs0 : A s0) (Hs1 : A s1) {r : pm_H} (hf : fX14_init_b87 h x0 s0 s1 = some r) : pr_F A h0 r := by
  unfold fX14_init_b87 at hf
  obtain ⟨k11, hf⟩ := pm_if hf
  exact rgX14_init_b95 (pr_new (pr_sR K0 Hs1 Hs0)) Hx0 (pr_n (pr_sR K0 Hs1 Hs0)) Hx0 hf
set_option maxHeartbeats 4000000 in
set_option maxRecDepth 100000 in
theorem rgX14_init_b79 {A : Nat → Prop} {h0 h : pm_H} (K0 : pr_F A h0 h) {x0 : Nat} {s0 : Nat} {s1 : Nat} (Hx0 : A x0) (Hs0 : A s0) (Hs1 : A s1) {r : pm_H} (hf : fX14_init_b79 h x0 s0 s1 = some r) : pr_F A h0 r := by
  unfold fX14_init_b79 at hf
  obtain ⟨k10, hf⟩ := pm_if hf
  exact rgX14_init_b87 (pr_new (pr_sR K0 Hs1 Hs0)) Hx0 (pr_n (pr_sR K0 Hs1 Hs0)) Hx0 hf
set_option maxHeartbeats 4000000 in
set_option maxRecDepth 100000 in
theorem rgX14_init_b71 {A : Nat → Prop} {h0 h : pm_H} (K0 : pr_F A h0 h) {x0 : Nat} {s0 : Nat} {s1 : Nat} (Hx0 : A x0) (Hs0 : A s0) (Hs1 : A s1) {r : pm_H} (hf : fX14_init_b71 h x0 s0 s1 = some r) : pr_F A h0 r := by
  unfold fX14_init_b71 at hf
  obtain ⟨k9, hf⟩ := pm_if hf
  exact rgX14_init_b79 (pr_new (pr_sR K0 Hs1 Hs0)) Hx0 (pr_n (pr_sR K0 Hs1 Hs0)) Hx0 hf
set_option maxHeartbeats 4000000 in
set_option maxRecDepth 100000 in
theorem rgX14_init_b63 {A : Nat → Prop} {h0 h : pm_H} (K0 : pr_F A h0 h) {x0 : Nat} {s0 : Nat} {s1 : Nat} (Hx0 : A x0) (Hs0 : A s0) (Hs1 : A s1) {r : pm_H} (hf : fX14_init_b63 h x0 s0 s1 = some r) : pr_F A h0 r := by
  unfold fX14_init_b63 at hf
  obtain ⟨k8, hf⟩ := pm_if hf
  exact rgX14_init_b71 (pr_new (pr_sR K0 Hs1 Hs0)) Hx0 (pr_n (pr_sR K0 Hs1 Hs0)) Hx0 hf
set_option maxHeartbeats 4000000 in
set_option maxRecDepth 100000 in
theorem rgX14_init_b55 {A : Nat → Prop} {h0 h : pm_H} (K0 : pr_F A h0 h) {x0 : Nat} {s0 : Nat} {s1 : Nat} (Hx0 : A x0) (Hs0 : A s0) (Hs1 : A s1) {r : pm_H} (hf : fX14_init_b55 h x0 s0 s1 = some r) : pr_F A h0 r := by
  unfold fX14_init_b55 at hf
  obtain ⟨k7, hf⟩ := pm_if hf
  exact rgX14_init_b63 (pr_new (pr_sR K0 Hs1 Hs0)) Hx0 (pr_n (pr_sR K0 Hs1 Hs0)) Hx0 hf
set_option maxHeartbeats 4000000 in
set_option maxRecDepth 100000 in
theorem rgX14_init_b47 {A : Nat → Prop} {h0 h : pm_H} (K0 : pr_F A h0 h) {x0 : Nat} {s0 : Nat} {s1 : Nat} (Hx0 : A x0) (Hs0 : A s0) (Hs1 : A s1) {r : pm_H} (hf : fX14_init_b47 h x0 s0 s1 = some r) : pr_F A h0 r := by
  unfold fX14_init_b47 at hf
  obtain ⟨k6, hf⟩ := pm_if hf
  exact rgX14_init_b55 (pr_new (pr_sR K0 Hs1 Hs0)) Hx0 (pr_n (pr_sR K0 Hs1 Hs0)) Hx0 hf
set_option maxHeartbeats 4000000 in
set_option maxRecDepth 100000 in
theorem rgX14_init_b39 {A : Nat → Prop} {h0 h : pm_H} (K0 : pr_F A h0 h) {x0 : Nat} {s0 : Nat} {s1 : Nat} (Hx0 : A x0) (Hs0 : A s0) (Hs1 : A s1) {r : pm_H} (hf : fX14_init_b39 h x0 s0 s1 = some r) : pr_F A h0 r := by
  unfold fX14_init_b39 at hf
  obtain ⟨k5, hf⟩ := pm_if hf
  exact rgX14_init_b47 (pr_new (pr_sR K0 Hs1 Hs0)) Hx0 (pr_n (pr_sR K0 Hs1 Hs0)) Hx0 hf
set_option maxHeartbeats 4000000 in
set_option maxRecDepth 100000 in
theorem rgX14_init_b30 {A : Nat → Prop} {h0 h : pm_H} (K0 : pr_F A h0 h) {x0 : Nat} {s0 : Nat} {s1 : Nat} (Hx0 : A x0) (Hs0 : A s0) (Hs1 : A s1) {r : pm_H} (hf : fX14_init_b30 h x0 s0 s1 = some r) : pr_F A h0 r := by
  unfold fX14_init_b30 at hf
  obtain ⟨k4, hf⟩ := pm_if hf
  exact rgX14_init_b39 (pr_new (pr_sR K0 Hs1 Hs0)) Hx0 (pr_n (pr_sR K0 Hs1 Hs0)) Hx0 hf
set_option maxHeartbeats 4000000 in
set_option maxRecDepth 100000 in
theorem rgX14_init_b22 {A : Nat → Prop} {h0 h : pm_H} (K0 : pr_F A h0 h) {x0 : Nat} {s0 : Nat} {s1 : Nat} (Hx0 : A x0) (Hs0 : A s0) (Hs1 : A s1) {r : pm_H} (hf : fX14_init_b22 h x0 s0 s1 = some r) : pr_F A h0 r := by
  unfold fX14_init_b22 at hf
  obtain ⟨k3, hf⟩ := pm_if hf
  exact rgX14_init_b30 (pr_new (pr_sR K0 Hs1 Hs0)) Hx0 (pr_n (pr_sR K0 Hs1 Hs0)) Hx0 hf
set_option maxHeartbeats 4000000 in
set_option maxRecDepth 100000 in
theorem rgX14_init_b9 {A : Nat → Prop} {h0 h : pm_H} (K0 : pr_F A h0 h) {x0 : Nat} {s0 : Nat} {s1 : Nat} (Hx0 : A x0) (Hs0 : A s0) (Hs1 : A s1) {r : pm_H} (hf : fX14_init_b9 h x0 s0 s1 = some r) : pr_F A h0 r := by
  unfold fX14_init_b9 at hf
  obtain ⟨k1, hf⟩ := pm_if hf
  obtain ⟨k2, hf⟩ := pm_if hf
  exact rgX14_init_b22 (pr_new (pr_sI (pr_sR K0 Hs1 Hs0) Hx0)) Hx0 (pr_n (pr_sI (pr_sR K0 Hs1 Hs0) Hx0)) Hx0 hf
set_option maxHeartbeats 4000000 in
set_option maxRecDepth 100000 in
theorem rgX14_init_b0 {A : Nat → Prop} {h0 h : pm_H} (K0 : pr_F A h0 h) {x0 : Nat} (Hx0 : A x0) {r : pm_H} (hf : fX14_init_b0 h x0 = some r) : pr_F A h0 r := by
  unfold fX14_init_b0 at hf
  exact rgX14_init_b9 (pr_new K0) Hx0 (pr_n K0) Hx0 hf
set_option maxHeartbeats 4000000 in
set_option maxRecDepth 100000 in
theorem rgX14_init {A : Nat → Prop} {h0 h : pm_H} (K0 : pr_F A h0 h) {a0 : Nat} (Ha0 : A a0) {r : pm_H} (hf : fX14_init h a0 = some r) : pr_F A h0 r := by
  unfold fX14_init at hf
  exact rgX14_init_b0 K0 Ha0 hf
set_option maxHeartbeats 4000000 in
set_option maxRecDepth 100000 in
theorem rlX16_takesImports {A : Nat → Prop} {h0 : pm_H} {r : pm_H} : ∀ n : Nat, (∀ (x0 : Nat) (x1 : Int32) (x2 : Int32) (h : pm_H), pr_F A h0 h → A x0 → pm_iter sX16_takesImports n (.inl (x0, x1, x2, h)) = some r → pr_F A h0 r) ∧ (∀ (x0 : Nat) (x1 : Int32) (x2 : Int32) (s0 : Nat) (h : pm_H), pr_F A h0 h → A x0 → A s0 → pm_iter sX16_takesImports n (.inr (.inl (x0, x1, x2, s0, h))) = some r → pr_F A h0 r) ∧ (∀ (x0 : Nat) (x1 : Int32) (x2 : Int32) (x3 : Nat) (x4 : Int32) (h : pm_H), pr_F A h0 h → A x0 → A x3 → pm_iter sX16_takesImports n (.inr (.inr (x0, x1, x2, x3, x4, h))) = some r → pr_F A h0 r) := by
  intro n
  induction n with
  | zero => exact ⟨fun _ _ _ _ _ _ hf => (by cases hf), fun _ _ _ _ _ _ _ _ hf => (by cases hf), fun _ _ _ _ _ _ _ _ _ hf => (by cases hf)⟩
  | succ n ih =>
    refine ⟨fun x0 x1 x2 h K0 Hx0 hf => ?_, ?_⟩
    · obtain ⟨y, hf, hi⟩ := pm_iter_s hf
      have hf : tX16_takesImports_0 x0 x1 x2 h = some y := hf
      unfold tX16_takesImports_0 at hf
      cases hf
      exact ih.2.1 x0 x1 x2 (pm_sz h) (pm_new h 34 4) (pr_new K0) Hx0 (pr_n K0) hi
    refine ⟨fun x0 x1 x2 s0 h K0 Hx0 Hs0 hf => ?_, ?_⟩
    · obtain ⟨y, hf, hi⟩ := pm_iter_s hf
      have hf : tX16_takesImports_3 x0 x1 x2 s0 h = some y := hf
      unfold tX16_takesImports_3 at hf
      obtain ⟨k1, hf⟩ := pm_if hf
      obtain ⟨u2, hf⟩ := pm_if hf
      obtain ⟨u3, hf⟩ := pm_if hf
      obtain ⟨u4, hf⟩ := pm_if hf
      obtain ⟨u5, hf⟩ := pm_if hf
      cases hf
      exact ih.2.2 x0 x1 x2 s0 0 (pm_setI (pm_setI (pm_setI (pm_setI h s0 ((0 : Int32).toNatClampNeg) 0) s0 ((1 : Int32).toNatClampNeg) 0) s0 ((2 : Int32).toNatClampNeg) 0) s0 ((3 : Int32).toNatClampNeg) 0) (pr_sI (pr_sI (pr_sI (pr_sI K0 Hs0) Hs0) Hs0) Hs0) Hx0 Hs0 hi
    refine fun x0 x1 x2 x3 x4 h K0 Hx0 Hx3 hf => ?_
    obtain ⟨y, hf, hi⟩ := pm_iter_s hf
    have hf : tX16_takesImports_23 x0 x1 x2 x3 x4 h = some y := hf
    unfold tX16_takesImports_23 at hf
    obtain ⟨k6, hf⟩ := pm_if hf
    obtain ⟨v7, e8, hf⟩ := pm_bd hf
    obtain ⟨k9, hf⟩ := pm_if hf
    by_cases c10 : (pm_I h v7 8) ≤ x4
    · have hf := pm_it hf c10
      have hf := Option.some.inj hf
      subst hf
      have hi := Option.some.inj (show some _ = some r from hi)
      subst hi
      exact K0
    · have hf := pm_ie hf c10
      obtain ⟨v11, e12, hf⟩ := pm_bd hf
      obtain ⟨k13, hf⟩ := pm_if hf
      obtain ⟨u14, hf⟩ := pm_if hf
      obtain ⟨y15, e16, hf⟩ := pm_lt hf
      obtain ⟨v17, e18, hf⟩ := pm_bd hf
      obtain ⟨k19, hf⟩ := pm_if hf
      obtain ⟨u20, hf⟩ := pm_if hf
      by_cases c21 : (pm_I h v17 x4.toNatClampNeg) = (-1)
      · have hf := pm_it hf c21
        obtain ⟨v22, e23, hf⟩ := pm_bd hf
        obtain ⟨k24, hf⟩ := pm_if hf
        obtain ⟨u25, hf⟩ := pm_if hf
        obtain ⟨v26, e27, hf⟩ := pm_bd hf
        obtain ⟨k28, hf⟩ := pm_if hf
        obtain ⟨u29, hf⟩ := pm_if hf
        obtain ⟨v30, e31, hf⟩ := pm_bd hf
        have K32 := rgX16_newFunction K0 Hx0 e31
        obtain ⟨k33, hf⟩ := pm_if hf
        obtain ⟨u34, hf⟩ := pm_if hf
        obtain ⟨k35, hf⟩ := pm_if hf
        obtain ⟨v36, e37, hf⟩ := pm_bd hf
        have K38 := rgX16_has K32 Hx0 e37
        obtain ⟨k39, hf⟩ := pm_if hf
        obtain ⟨u40, hf⟩ := pm_if hf
        obtain ⟨y41, e42, hf⟩ := pm_lt hf
        obtain ⟨u43, hf⟩ := pm_if hf
        obtain ⟨y44, e45, hf⟩ := pm_lt hf
        cases hf
        exact ih.2.2 x0 x1 x2 x3 y44 (pm_setI v36 x3 y15.toNatClampNeg y41) (pr_sI K38 Hx3) Hx0 Hx3 hi
      · have hf := pm_ie hf c21
        obtain ⟨v46, e47, hf⟩ := pm_bd hf
        obtain ⟨k48, hf⟩ := pm_if hf
        obtain ⟨u49, hf⟩ := pm_if hf
        obtain ⟨y50, e51, hf⟩ := pm_lt hf
        obtain ⟨k52, hf⟩ := pm_if hf
        obtain ⟨u53, hf⟩ := pm_if hf
        obtain ⟨v54, e55, hf⟩ := pm_bd hf
        have K56 := rgX16_has K0 Hx0 e55
        obtain ⟨k57, hf⟩ := pm_if hf
        obtain ⟨u58, hf⟩ := pm_if hf
        obtain ⟨y59, e60, hf⟩ := pm_lt hf
        obtain ⟨u61, hf⟩ := pm_if hf
        obtain ⟨y62, e63, hf⟩ := pm_lt hf
        cases hf
        exact ih.2.2 x0 x1 x2 x3 y62 (pm_setI v54 x3 y15.toNatClampNeg y59) (pr_sI K56 Hx3) Hx0 Hx3 hi
set_option maxHeartbeats 4000000 in
set_option maxRecDepth 100000 in
theorem rgX16_takesImports {A : Nat → Prop} {h0 h : pm_H} (K0 : pr_F A h0 h) {a0 : Nat} {p1 : Int32} {p2 : Int32} (Ha0 : A a0) {r : pm_H} (hf : fX16_takesImports h a0 p1 p2 = some r) : pr_F A h0 r := by
  unfold fX16_takesImports at hf
  obtain ⟨n, hn⟩ := pm_lim_iter hf
  exact (rlX16_takesImports n).1 a0 p1 p2 h K0 Ha0 hn
set_option maxHeartbeats 4000000 in
set_option maxRecDepth 100000 in
theorem rgX1_beginBlock_b147 {A : Nat → Prop} {h0 h : pm_H} (K0 : pr_F A h0 h) {x0 : Nat} {x1 : Int32} {x2 : Nat} {x3 : Int32} {s0 : Int32} (Hx0 : A x0) (Hx2 : A x2) {r : pm_H} (hf : fX1_beginBlock_b147 h x0 x1 x2 x3 s0 = some r) : pr_F A h0 r := by
  unfold fX1_beginBlock_b147 at hf
  obtain ⟨k62, hf⟩ := pm_if hf
  obtain ⟨v63, e64, hf⟩ := pm_bd hf
  obtain ⟨k65, hf⟩ := pm_if hf
  obtain ⟨v66, e67, hf⟩ := pm_bd hf
  have K68 := rgX1_openLabel K0 Hx0 e67
  obtain ⟨k69, hf⟩ := pm_if hf
  obtain ⟨v70, e71, hf⟩ := pm_bd hf
  have K72 := rgX1_putParameters K68 Hx0 Hx2 e71
  have hf := Option.some.inj hf
  subst hf
  exact K72
set_option maxHeartbeats 4000000 in
set_option maxRecDepth 100000 in
theorem rgX1_beginBlock_b105 {A : Nat → Prop} {h0 h : pm_H} (K0 : pr_F A h0 h) {x0 : Nat} {x1 : Int32} {x2 : Nat} (Hx0 : A x0) (Hx2 : A x2) {r : pm_H} (hf : fX1_beginBlock_b105 h x0 x1 x2 = some r) : pr_F A h0 r := by
  unfold fX1_beginBlock_b105 at hf
  obtain ⟨k48, hf⟩ := pm_if hf
  by_cases c49 : (pm_I h x0 0) = 0
  · have hf := pm_it hf c49
    obtain ⟨v50, e51, hf⟩ := pm_bd hf
    obtain ⟨v52, e53, hf⟩ := pm_bd hf
    obtain ⟨k54, hf⟩ := pm_if hf
    by_cases c55 : (pm_I h v52 6) = 4
    · have hf := pm_it hf c55
      obtain ⟨v56, e57, hf⟩ := pm_bd hf
      have K58 := rgX1_emit K0 Hx0 e57
      exact rgX1_beginBlock_b147 K58 Hx0 Hx2 hf
    · have hf := pm_ie hf c55
      obtain ⟨v59, e60, hf⟩ := pm_bd hf
      obtain ⟨k61, hf⟩ := pm_if hf
      exact rgX1_beginBlock_b147 K0 Hx0 Hx2 hf
  · have hf := pm_ie hf c49
    have hf := Option.some.inj hf
    subst hf
    exact K0
set_option maxHeartbeats 4000000 in
set_option maxRecDepth 100000 in
theorem rgX1_beginBlock_b84 {A : Nat → Prop} {h0 h : pm_H} (K0 : pr_F A h0 h) {x0 : Nat} {x1 : Int32} {x2 : Nat} (Hx0 : A x0) (Hx2 : A x2) {r : pm_H} (hf : fX1_beginBlock_b84 h x0 x1 x2 = some r) : pr_F A h0 r := by
  unfold fX1_beginBlock_b84 at hf
  obtain ⟨k39, hf⟩ := pm_if hf
  obtain ⟨v40, e41, hf⟩ := pm_bd hf
  have K42 := rgX1_takeParameters K0 Hx0 Hx2 e41
  obtain ⟨k43, hf⟩ := pm_if hf
  by_cases c44 : (pm_I v40 x0 10) < 200
  · have hf := pm_it hf c44
    exact rgX1_beginBlock_b105 K42 Hx0 Hx2 hf
  · have hf := pm_ie hf c44
    obtain ⟨v45, e46, hf⟩ := pm_bd hf
    have K47 := rgX1_fail K42 Hx0 e46
    exact rgX1_beginBlock_b105 K47 Hx0 Hx2 hf
set_option maxHeartbeats 4000000 in
set_option maxRecDepth 100000 in
theorem rgX1_beginBlock_b65 {A : Nat → Prop} {h0 h : pm_H} (K0 : pr_F A h0 h) {x0 : Nat} {x1 : Int32} {s0 : Nat} (Hx0 : A x0) (Hs0 : A s0) {r : pm_H} (hf : fX1_beginBlock_b65 h x0 x1 s0 = some r) : pr_F A h0 r := by
  unfold fX1_beginBlock_b65 at hf
  obtain ⟨k31, hf⟩ := pm_if hf
  obtain ⟨v32, e33, hf⟩ := pm_bd hf
  obtain ⟨k34, hf⟩ := pm_if hf
  by_cases c35 : (pm_I h v32 6) = 4
  · have hf := pm_it hf c35
    obtain ⟨v36, e37, hf⟩ := pm_bd hf
    have K38 := rgX1_take K0 Hx0 e37
    exact rgX1_beginBlock_b84 K38 Hx0 Hs0 hf
  · have hf := pm_ie hf c35
    exact rgX1_beginBlock_b84 K0 Hx0 Hs0 hf
set_option maxHeartbeats 4000000 in
set_option maxRecDepth 100000 in
theorem rgX1_beginBlock_b48 {A : Nat → Prop} {h0 h : pm_H} (K0 : pr_F A h0 h) {x0 : Nat} {x1 : Int32} {s0 : Nat} (Hx0 : A x0) (Hs0 : A s0) {r : pm_H} (hf : fX1_beginBlock_b48 h x0 x1 s0 = some r) : pr_F A h0 r := by
  unfold fX1_beginBlock_b48 at hf
  exact rgX1_beginBlock_b65 K0 Hx0 Hs0 hf
set_option maxHeartbeats 4000000 in
set_option maxRecDepth 100000 in
theorem rgX1_beginBlock_b0 {A : Nat → Prop} {h0 h : pm_H} (K0 : pr_F A h0 h) {x0 : Nat} (Hx0 : A x0) {r : pm_H} (hf : fX1_beginBlock_b0 h x0 = some r) : pr_F A h0 r := by
  unfold fX1_beginBlock_b0 at hf
  obtain ⟨k1, hf⟩ := pm_if hf
  obtain ⟨v2, e3, hf⟩ := pm_bd hf
  obtain ⟨k4, hf⟩ := pm_if hf
  obtain ⟨v5, e6, hf⟩ := pm_bd hf
  obtain ⟨k7, hf⟩ := pm_if hf
  obtain ⟨v8, e9, hf⟩ := pm_bd hf
  obtain ⟨k10, hf⟩ := pm_if hf
  by_cases c11 : (pm_L h v2 8) < ((Int32.ofNat (pm_ln h v8)).toInt64)
  · have hf := pm_it hf c11
    obtain ⟨y12, e13, hf⟩ := pm_lt hf
    by_cases c14 : y12 < 0
    · have hf := pm_it hf c14
      obtain ⟨v15, e16, hf⟩ := pm_bd hf
      obtain ⟨y17, e18, hf⟩ := pm_lt hf
      obtain ⟨y19, e20, hf⟩ := pm_lt hf
      obtain ⟨k21, hf⟩ := pm_if hf
      obtain ⟨u22, hf⟩ := pm_if hf
      obtain ⟨v23, e24, hf⟩ := pm_bd hf
      exact rgX1_beginBlock_b65 K0 Hx0 (pr_c K0 (pr_c K0 Hx0 e16) e24) hf
    · have hf := pm_ie hf c14
      obtain ⟨v25, e26, hf⟩ := pm_bd hf
      have K27 := rgX7_shape K0 (pr_c K0 Hx0 e6) e26
      exact rgX1_beginBlock_b48 K27.1 Hx0 K27.2 hf
  · have hf := pm_ie hf c11
    obtain ⟨v28, e29, hf⟩ := pm_bd hf
    have K30 := rgX1_fail K0 Hx0 e29
    have hf := Option.some.inj hf
    subst hf
    exact K30
set_option maxHeartbeats 4000000 in
set_option maxRecDepth 100000 in
theorem rgX1_beginBlock {A : Nat → Prop} {h0 h : pm_H} (K0 : pr_F A h0 h) {a0 : Nat} (Ha0 : A a0) {r : pm_H} (hf : fX1_beginBlock h a0 = some r) : pr_F A h0 r := by
  unfold fX1_beginBlock at hf
  exact rgX1_beginBlock_b0 K0 Ha0 hf
