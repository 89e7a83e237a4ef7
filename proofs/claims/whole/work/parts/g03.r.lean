set_option maxHeartbeats 4000000 in
set_option maxRecDepth 100000 in
theorem rlX16_stretches {A : Nat → Prop} {h0 : pm_H} {r : pm_H} : ∀ n : Nat, (∀ (x0 : Nat) (x1 : Int32) (x3 : Int32) (x4 : Int64) (x6 : Int64) (x8 : Int64) (x12 : Int32) (x13 : Int64) (h : pm_H), pr_F A h0 h → A x0 → pm_iter sX16_stretches n (.inl (x0, x1, x3, x4, x6, x8, x12, x13, h)) = some r → pr_F A h0 r) ∧ (∀ (x0 : Nat) (x1 : Int32) (x3 : Int32) (x4 : Int64) (x6 : Int64) (x8 : Int64) (x12 : Int32) (x13 : Int64) (h : pm_H), pr_F A h0 h → A x0 → pm_iter sX16_stretches n (.inr (.inl (x0, x1, x3, x4, x6, x8, x12, x13, h))) = some r → pr_F A h0 r) ∧ (∀ (x0 : Nat) (x1 : Int32) (x3 : Int32) (x4 : Int64) (x6 : Int64) (x8 : Int64) (x12 : Int32) (x13 : Int64) (s0 : Int64) (h : pm_H), pr_F A h0 h → A x0 → pm_iter sX16_stretches n (.inr (.inr (x0, x1, x3, x4, x6, x8, x12, x13, s0, h))) = some r → pr_F A h0 r) := by
  intro n
  induction n with
  | zero => exact ⟨fun _ _ _ _ _ _ _ _ _ _ _ hf => (by cases hf), fun _ _ _ _ _ _ _ _ _ _ _ hf => (by cases hf), fun _ _ _ _ _ _ _ _ _ _ _ _ hf => (by cases hf)⟩
  | succ n ih =>
    refine ⟨fun x0 x1 x3 x4 x6 x8 x12 x13 h K0 Hx0 hf => ?_, ?_⟩
    · obtain ⟨y, hf, hi⟩ := pm_iter_s hf
      have hf : tX16_stretches_126 x0 x1 x3 x4 x6 x8 x12 x13 h = some y := hf
      unfold tX16_stretches_126 at hf
      by_cases c56 : x4 ≤ x13
      · have hf := pm_it hf c56
        cases hf
        cases hi
        exact K0
      · have hf := pm_ie hf c56
        by_cases c57 : x12 = 0
        · have hf := pm_it hf c57
          by_cases c58 : x1 = 10
          · have hf := pm_it hf c58
            by_cases c59 : x8 ≤ x6
            · have hf := pm_it hf c59
              cases hf
              exact ih.2.1 x0 x1 x3 x4 x6 x8 x12 x13 h K0 Hx0 hi
            · have hf := pm_ie hf c59
              cases hf
              exact ih.2.2 x0 x1 x3 x4 x6 x8 x12 x13 ((x4 - 1) - x13) h K0 Hx0 hi
          · have hf := pm_ie hf c58
            cases hf
            exact ih.2.1 x0 x1 x3 x4 x6 x8 x12 x13 h K0 Hx0 hi
        · have hf := pm_ie hf c57
          cases hf
          cases hi
          exact K0
    refine ⟨fun x0 x1 x3 x4 x6 x8 x12 x13 h K0 Hx0 hf => ?_, ?_⟩
    · obtain ⟨y, hf, hi⟩ := pm_iter_s hf
      have hf : tX16_stretches_163 x0 x1 x3 x4 x6 x8 x12 x13 h = some y := hf
      unfold tX16_stretches_163 at hf
      cases hf
      exact ih.2.2 x0 x1 x3 x4 x6 x8 x12 x13 x13 h K0 Hx0 hi
    refine fun x0 x1 x3 x4 x6 x8 x12 x13 s0 h K0 Hx0 hf => ?_
    obtain ⟨y, hf, hi⟩ := pm_iter_s hf
    have hf : tX16_stretches_165 x0 x1 x3 x4 x6 x8 x12 x13 s0 h = some y := hf
    unfold tX16_stretches_165 at hf
    by_cases c60 : x1 = 11
    · have hf := pm_it hf c60
      obtain ⟨k61, hf⟩ := pm_if hf
      obtain ⟨v62, e63, hf⟩ := pm_bd hf
      have K64 := rgX16_sets K0 Hx0 e63
      obtain ⟨y65, e66, hf⟩ := pm_lt hf
      cases hf
      exact ih.1 x0 x1 x3 x4 x6 x8 x12 y65 v62 K64 Hx0 hi
    · have hf := pm_ie hf c60
      obtain ⟨k67, hf⟩ := pm_if hf
      obtain ⟨v68, e69, hf⟩ := pm_bd hf
      obtain ⟨v70, e71, hf⟩ := pm_bd hf
      have K72 := rgX16_sets K0 Hx0 e71
      obtain ⟨y73, e74, hf⟩ := pm_lt hf
      cases hf
      exact ih.1 x0 x1 x3 x4 x6 x8 x12 y73 v70 K72 Hx0 hi
set_option maxHeartbeats 4000000 in
set_option maxRecDepth 100000 in
theorem rgX16_stretches {A : Nat → Prop} {h0 h : pm_H} (K0 : pr_F A h0 h) {a0 : Nat} {p1 : Int32} {p2 : Int32} (Ha0 : A a0) {r : pm_H} (hf : fX16_stretches h a0 p1 p2 = some r) : pr_F A h0 r := by
  unfold fX16_stretches at hf
  obtain ⟨k1, hf⟩ := pm_if hf
  obtain ⟨v2, e3, hf⟩ := pm_bd hf
  obtain ⟨y4, e5, hf⟩ := pm_lt hf
  obtain ⟨k6, hf⟩ := pm_if hf
  obtain ⟨u7, hf⟩ := pm_if hf
  obtain ⟨y8, e9, hf⟩ := pm_lt hf
  obtain ⟨v10, e11, hf⟩ := pm_bd hf
  have K12 := rgX16_pop K0 Ha0 e11
  obtain ⟨k13, hf⟩ := pm_if hf
  obtain ⟨v14, e15, hf⟩ := pm_bd hf
  have K16 := rgX16_pop K12 Ha0 e15
  obtain ⟨k17, hf⟩ := pm_if hf
  obtain ⟨v18, e19, hf⟩ := pm_bd hf
  have K20 := rgX16_pop K16 Ha0 e19
  obtain ⟨k21, hf⟩ := pm_if hf
  obtain ⟨v22, e23, hf⟩ := pm_bd hf
  obtain ⟨k24, hf⟩ := pm_if hf
  obtain ⟨u25, hf⟩ := pm_if hf
  obtain ⟨y26, e27, hf⟩ := pm_lt hf
  by_cases c28 : p1 = 8
  · have hf := pm_it hf c28
    obtain ⟨v29, e30, hf⟩ := pm_bd hf
    have K31 := rgX16_copiesData K20 Ha0 e30
    by_cases c32 : v29.1 = 0
    · have hf := pm_it hf c32
      obtain ⟨k33, hf⟩ := pm_if hf
      obtain ⟨v34, e35, hf⟩ := pm_bd hf
      have K36 := rgX16_endsBy K31 Ha0 e35
      cases hf
      exact K36
    · have hf := pm_ie hf c32
      obtain ⟨k37, hf⟩ := pm_if hf
      obtain ⟨v38, e39, hf⟩ := pm_bd hf
      have K40 := rgX16_endsBy K31 Ha0 e39
      cases hf
      exact K40
  · have hf := pm_ie hf c28
    by_cases c41 : y26 < (v18.1 + v10.1)
    · have hf := pm_it hf c41
      obtain ⟨v42, e43, hf⟩ := pm_bd hf
      have K44 := rgX16_endsBy K20 Ha0 e43
      obtain ⟨n, hn⟩ := pm_lim_iter hf
      exact (rlX16_stretches n).1 a0 p1 y8 v10.1 v14.1 v18.1 1 0 v42 K44 Ha0 hn
    · have hf := pm_ie hf c41
      by_cases c45 : p1 = 10
      · have hf := pm_it hf c45
        by_cases c46 : (v14.1 + v10.1) ≤ y26
        · have hf := pm_it hf c46
          obtain ⟨v47, e48, hf⟩ := pm_bd hf
          have K49 := rgX16_endsBy K20 Ha0 e48
          obtain ⟨n, hn⟩ := pm_lim_iter hf
          exact (rlX16_stretches n).1 a0 p1 y8 v10.1 v14.1 v18.1 0 0 v47 K49 Ha0 hn
        · have hf := pm_ie hf c46
          obtain ⟨v50, e51, hf⟩ := pm_bd hf
          have K52 := rgX16_endsBy K20 Ha0 e51
          obtain ⟨n, hn⟩ := pm_lim_iter hf
          exact (rlX16_stretches n).1 a0 p1 y8 v10.1 v14.1 v18.1 1 0 v50 K52 Ha0 hn
      · have hf := pm_ie hf c45
        obtain ⟨v53, e54, hf⟩ := pm_bd hf
        have K55 := rgX16_endsBy K20 Ha0 e54
        obtain ⟨n, hn⟩ := pm_lim_iter hf
        exact (rlX16_stretches n).1 a0 p1 y8 v10.1 v14.1 v18.1 0 0 v53 K55 Ha0 hn
set_option maxHeartbeats 4000000 in
set_option maxRecDepth 100000 in
theorem rlX16_takesElement {A : Nat → Prop} {h0 : pm_H} {r : pm_H} : ∀ n : Nat, (∀ (x0 : Nat) (x1 : Int32) (x2 : Int32) (x3 : Int32) (h : pm_H), pr_F A h0 h → A x0 → pm_iter sX16_takesElement n (x0, x1, x2, x3, h) = some r → pr_F A h0 r) := by
  intro n
  induction n with
  | zero => exact fun _ _ _ _ _ _ _ hf => (by cases hf)
  | succ n ih =>
    refine fun x0 x1 x2 x3 h K0 Hx0 hf => ?_
    obtain ⟨y, hf, hi⟩ := pm_iter_s hf
    have hf : tX16_takesElement_50 x0 x1 x2 x3 h = some y := hf
    unfold tX16_takesElement_50 at hf
    obtain ⟨k27, hf⟩ := pm_if hf
    obtain ⟨v28, e29, hf⟩ := pm_bd hf
    obtain ⟨k30, hf⟩ := pm_if hf
    obtain ⟨v31, e32, hf⟩ := pm_bd hf
    obtain ⟨k33, hf⟩ := pm_if hf
    obtain ⟨u34, hf⟩ := pm_if hf
    by_cases c35 : (pm_I h v31 x2.toNatClampNeg) ≤ x3
    · have hf := pm_it hf c35
      cases hf
      cases hi
      exact K0
    · have hf := pm_ie hf c35
      obtain ⟨v36, e37, hf⟩ := pm_bd hf
      obtain ⟨v38, e39, hf⟩ := pm_bd hf
      obtain ⟨k40, hf⟩ := pm_if hf
      obtain ⟨u41, hf⟩ := pm_if hf
      by_cases c42 : (pm_I h v38 x2.toNatClampNeg) = 0
      · have hf := pm_it hf c42
        obtain ⟨v43, e44, hf⟩ := pm_bd hf
        obtain ⟨v45, e46, hf⟩ := pm_bd hf
        have K47 := rgX16_word K0 Hx0 e46
        obtain ⟨y48, e49, hf⟩ := pm_lt hf
        obtain ⟨k50, hf⟩ := pm_if hf
        obtain ⟨u51, hf⟩ := pm_if hf
        obtain ⟨y52, e53, hf⟩ := pm_lt hf
        obtain ⟨k54, hf⟩ := pm_if hf
        obtain ⟨u55, hf⟩ := pm_if hf
        obtain ⟨k56, hf⟩ := pm_if hf
        obtain ⟨y57, e58, hf⟩ := pm_lt hf
        obtain ⟨y59, e60, hf⟩ := pm_lt hf
        cases hf
        exact ih x0 x1 x2 y59 (pm_setI (pm_setI v45.2 v36 ((pm_I h x0 71).toNatClampNeg) y52) x0 71 y57) (pr_sI (pr_sI K47 (pr_c K0 Hx0 e37)) Hx0) Hx0 hi
      · have hf := pm_ie hf c42
        obtain ⟨v61, e62, hf⟩ := pm_bd hf
        have K63 := rgX16_constant K0 Hx0 e62
        obtain ⟨k64, hf⟩ := pm_if hf
        obtain ⟨u65, hf⟩ := pm_if hf
        obtain ⟨k66, hf⟩ := pm_if hf
        obtain ⟨y67, e68, hf⟩ := pm_lt hf
        obtain ⟨y69, e70, hf⟩ := pm_lt hf
        cases hf
        exact ih x0 x1 x2 y69 (pm_setI (pm_setI v61.2 v36 ((pm_I h x0 71).toNatClampNeg) v61.1.toInt32) x0 71 y67) (pr_sI (pr_sI K63 (pr_c K0 Hx0 e37)) Hx0) Hx0 hi
set_option maxHeartbeats 4000000 in
set_option maxRecDepth 100000 in
theorem rgX16_takesElement {A : Nat → Prop} {h0 h : pm_H} (K0 : pr_F A h0 h) {a0 : Nat} {p1 : Int32} {p2 : Int32} (Ha0 : A a0) {r : pm_H} (hf : fX16_takesElement h a0 p1 p2 = some r) : pr_F A h0 r := by
  unfold fX16_takesElement at hf
  obtain ⟨k1, hf⟩ := pm_if hf
  obtain ⟨v2, e3, hf⟩ := pm_bd hf
  obtain ⟨y4, e5, hf⟩ := pm_lt hf
  obtain ⟨k6, hf⟩ := pm_if hf
  obtain ⟨u7, hf⟩ := pm_if hf
  obtain ⟨v8, e9, hf⟩ := pm_bd hf
  obtain ⟨v10, e11, hf⟩ := pm_bd hf
  obtain ⟨k12, hf⟩ := pm_if hf
  obtain ⟨v13, e14, hf⟩ := pm_bd hf
  obtain ⟨k15, hf⟩ := pm_if hf
  obtain ⟨u16, hf⟩ := pm_if hf
  obtain ⟨y17, e18, hf⟩ := pm_lt hf
  obtain ⟨k19, hf⟩ := pm_if hf
  obtain ⟨u20, hf⟩ := pm_if hf
  obtain ⟨v21, e22, hf⟩ := pm_bd hf
  obtain ⟨k23, hf⟩ := pm_if hf
  obtain ⟨u24, hf⟩ := pm_if hf
  obtain ⟨y25, e26, hf⟩ := pm_lt hf
  obtain ⟨n, hn⟩ := pm_lim_iter hf
  exact (rlX16_takesElement n) a0 p1 p2 0 (pm_setI (pm_setI (pm_setI h v2 (((64 * p1) + p2).toNatClampNeg) y4) v8 (((64 * p1) + p2).toNatClampNeg) y17) a0 19 y25) (pr_sI (pr_sI (pr_sI K0 (pr_c K0 Ha0 e3)) (pr_c (pr_sI K0 (pr_c K0 Ha0 e3)) Ha0 e9)) Ha0) Ha0 hn
set_option maxHeartbeats 4000000 in
set_option maxRecDepth 100000 in
theorem rlX16_takesOwn {A : Nat → Prop} {h0 : pm_H} {r : pm_H} : ∀ n : Nat, (∀ (x0 : Nat) (x1 : Int32) (x2 : Int32) (x3 : Int32) (h : pm_H), pr_F A h0 h → A x0 → pm_iter sX16_takesOwn n (.inl (x0, x1, x2, x3, h)) = some r → pr_F A h0 r) ∧ (∀ (x0 : Nat) (x1 : Int32) (x3 : Int32) (h : pm_H), pr_F A h0 h → A x0 → pm_iter sX16_takesOwn n (.inr (.inl (x0, x1, x3, h))) = some r → pr_F A h0 r) ∧ (∀ (x0 : Nat) (x1 : Int32) (x3 : Int32) (h : pm_H), pr_F A h0 h → A x0 → pm_iter sX16_takesOwn n (.inr (.inr (.inl (x0, x1, x3, h)))) = some r → pr_F A h0 r) ∧ (∀ (x0 : Nat) (x1 : Int32) (x3 : Int32) (h : pm_H), pr_F A h0 h → A x0 → pm_iter sX16_takesOwn n (.inr (.inr (.inr (.inl (x0, x1, x3, h))))) = some r → pr_F A h0 r) ∧ (∀ (x0 : Nat) (x1 : Int32) (x3 : Int32) (h : pm_H), pr_F A h0 h → A x0 → pm_iter sX16_takesOwn n (.inr (.inr (.inr (.inr (.inl (x0, x1, x3, h)))))) = some r → pr_F A h0 r) ∧ (∀ (x0 : Nat) (x1 : Int32) (x3 : Int32) (h : pm_H), pr_F A h0 h → A x0 → pm_iter sX16_takesOwn n (.inr (.inr (.inr (.inr (.inr (x0, x1, x3, h)))))) = some r → pr_F A h0 r) := by
  intro n
  induction n with
  | zero => exact ⟨fun _ _ _ _ _ _ _ hf => (by cases hf), fun _ _ _ _ _ _ hf => (by cases hf), fun _ _ _ _ _ _ hf => (by cases hf), fun _ _ _ _ _ _ hf => (by cases hf), fun _ _ _ _ _ _ hf => (by cases hf), fun _ _ _ _ _ _ hf => (by cases hf)⟩
  | succ n ih =>
    refine ⟨fun x0 x1 x2 x3 h K0 Hx0 hf => ?_, ?_⟩
    · obtain ⟨y, hf, hi⟩ := pm_iter_s hf
      have hf : tX16_takesOwn_2 x0 x1 x2 x3 h = some y := hf
      unfold tX16_takesOwn_2 at hf
      obtain ⟨k1, hf⟩ := pm_if hf
      obtain ⟨v2, e3, hf⟩ := pm_bd hf
      obtain ⟨k4, hf⟩ := pm_if hf
      by_cases c5 : (pm_I h v2 15) ≤ x3
      · have hf := pm_it hf c5
        cases hf
        exact ih.2.1 x0 x1 0 h K0 Hx0 hi
      · have hf := pm_ie hf c5
        obtain ⟨v6, e7, hf⟩ := pm_bd hf
        obtain ⟨v8, e9, hf⟩ := pm_bd hf
        obtain ⟨k10, hf⟩ := pm_if hf
        obtain ⟨u11, hf⟩ := pm_if hf
        obtain ⟨v12, e13, hf⟩ := pm_bd hf
        have K14 := rgX16_newFunction K0 Hx0 e13
        obtain ⟨k15, hf⟩ := pm_if hf
        obtain ⟨v16, e17, hf⟩ := pm_bd hf
        have K18 := rgX16_has K14 Hx0 e17
        obtain ⟨y19, e20, hf⟩ := pm_lt hf
        cases hf
        exact ih.1 x0 x1 x2 y19 v16 K18 Hx0 hi
    refine ⟨fun x0 x1 x3 h K0 Hx0 hf => ?_, ?_⟩
    · obtain ⟨y, hf, hi⟩ := pm_iter_s hf
      have hf : tX16_takesOwn_55 x0 x1 x3 h = some y := hf
      unfold tX16_takesOwn_55 at hf
      obtain ⟨k21, hf⟩ := pm_if hf
      obtain ⟨v22, e23, hf⟩ := pm_bd hf
      obtain ⟨k24, hf⟩ := pm_if hf
      by_cases c25 : (pm_I h v22 17) ≤ x3
      · have hf := pm_it hf c25
        cases hf
        exact ih.2.2.1 x0 x1 0 h K0 Hx0 hi
      · have hf := pm_ie hf c25
        obtain ⟨v26, e27, hf⟩ := pm_bd hf
        obtain ⟨v28, e29, hf⟩ := pm_bd hf
        obtain ⟨k30, hf⟩ := pm_if hf
        obtain ⟨u31, hf⟩ := pm_if hf
        obtain ⟨y32, e33, hf⟩ := pm_lt hf
        obtain ⟨k34, hf⟩ := pm_if hf
        obtain ⟨u35, hf⟩ := pm_if hf
        obtain ⟨v36, e37, hf⟩ := pm_bd hf
        obtain ⟨v38, e39, hf⟩ := pm_bd hf
        obtain ⟨k40, hf⟩ := pm_if hf
        obtain ⟨u41, hf⟩ := pm_if hf
        obtain ⟨y42, e43, hf⟩ := pm_lt hf
        obtain ⟨k44, hf⟩ := pm_if hf
        obtain ⟨u45, hf⟩ := pm_if hf
        obtain ⟨v46, e47, hf⟩ := pm_bd hf
        obtain ⟨k48, hf⟩ := pm_if hf
        obtain ⟨u49, hf⟩ := pm_if hf
        obtain ⟨v50, e51, hf⟩ := pm_bd hf
        obtain ⟨k52, hf⟩ := pm_if hf
        obtain ⟨u53, hf⟩ := pm_if hf
        obtain ⟨v54, e55, hf⟩ := pm_bd hf
        have K56 := rgX16_grows (pr_sI (pr_sL (pr_sI K0 (pr_c K0 Hx0 e27)) (pr_c (pr_sI K0 (pr_c K0 Hx0 e27)) Hx0 e37)) (pr_c (pr_sL (pr_sI K0 (pr_c K0 Hx0 e27)) (pr_c (pr_sI K0 (pr_c K0 Hx0 e27)) Hx0 e37)) Hx0 e47)) Hx0 e55
        obtain ⟨k57, hf⟩ := pm_if hf
        obtain ⟨v58, e59, hf⟩ := pm_bd hf
        obtain ⟨k60, hf⟩ := pm_if hf
        obtain ⟨v61, e62, hf⟩ := pm_bd hf
        obtain ⟨v63, e64, hf⟩ := pm_bd hf
        have K65 := rgX16_has K56 Hx0 e64
        obtain ⟨k66, hf⟩ := pm_if hf
        obtain ⟨y67, e68, hf⟩ := pm_lt hf
        obtain ⟨y69, e70, hf⟩ := pm_lt hf
        cases hf
        exact ih.2.1 x0 x1 y69 (pm_setI v63 x0 46 y67) (pr_sI K65 Hx0) Hx0 hi
    refine ⟨fun x0 x1 x3 h K0 Hx0 hf => ?_, ?_⟩
    · obtain ⟨y, hf, hi⟩ := pm_iter_s hf
      have hf : tX16_takesOwn_169 x0 x1 x3 h = some y := hf
      unfold tX16_takesOwn_169 at hf
      obtain ⟨k71, hf⟩ := pm_if hf
      obtain ⟨v72, e73, hf⟩ := pm_bd hf
      obtain ⟨k74, hf⟩ := pm_if hf
      by_cases c75 : (pm_I h v72 21) ≤ x3
      · have hf := pm_it hf c75
        cases hf
        exact ih.2.2.2.1 x0 x1 0 h K0 Hx0 hi
      · have hf := pm_ie hf c75
        obtain ⟨v76, e77, hf⟩ := pm_bd hf
        obtain ⟨v78, e79, hf⟩ := pm_bd hf
        obtain ⟨k80, hf⟩ := pm_if hf
        obtain ⟨u81, hf⟩ := pm_if hf
        obtain ⟨y82, e83, hf⟩ := pm_lt hf
        obtain ⟨k84, hf⟩ := pm_if hf
        obtain ⟨u85, hf⟩ := pm_if hf
        obtain ⟨v86, e87, hf⟩ := pm_bd hf
        obtain ⟨k88, hf⟩ := pm_if hf
        obtain ⟨u89, hf⟩ := pm_if hf
        obtain ⟨v90, e91, hf⟩ := pm_bd hf
        obtain ⟨k92, hf⟩ := pm_if hf
        obtain ⟨u93, hf⟩ := pm_if hf
        obtain ⟨v94, e95, hf⟩ := pm_bd hf
        have K96 := rgX16_growsPages (pr_sI (pr_sL K0 (pr_c K0 Hx0 e77)) (pr_c (pr_sL K0 (pr_c K0 Hx0 e77)) Hx0 e87)) Hx0 e95
        obtain ⟨k97, hf⟩ := pm_if hf
        obtain ⟨v98, e99, hf⟩ := pm_bd hf
        obtain ⟨k100, hf⟩ := pm_if hf
        obtain ⟨v101, e102, hf⟩ := pm_bd hf
        obtain ⟨v103, e104, hf⟩ := pm_bd hf
        have K105 := rgX16_has K96 Hx0 e104
        obtain ⟨k106, hf⟩ := pm_if hf
        obtain ⟨y107, e108, hf⟩ := pm_lt hf
        obtain ⟨y109, e110, hf⟩ := pm_lt hf
        cases hf
        exact ih.2.2.1 x0 x1 y109 (pm_setI v103 x0 52 y107) (pr_sI K105 Hx0) Hx0 hi
    refine ⟨fun x0 x1 x3 h K0 Hx0 hf => ?_, ?_⟩
    · obtain ⟨y, hf, hi⟩ := pm_iter_s hf
      have hf : tX16_takesOwn_264 x0 x1 x3 h = some y := hf
      unfold tX16_takesOwn_264 at hf
      obtain ⟨k111, hf⟩ := pm_if hf
      obtain ⟨v112, e113, hf⟩ := pm_bd hf
      obtain ⟨k114, hf⟩ := pm_if hf
      by_cases c115 : (pm_I h v112 24) ≤ x3
      · have hf := pm_it hf c115
        cases hf
        exact ih.2.2.2.2.1 x0 x1 0 h K0 Hx0 hi
      · have hf := pm_ie hf c115
        obtain ⟨v116, e117, hf⟩ := pm_bd hf
        obtain ⟨v118, e119, hf⟩ := pm_bd hf
        obtain ⟨k120, hf⟩ := pm_if hf
        obtain ⟨u121, hf⟩ := pm_if hf
        obtain ⟨y122, e123, hf⟩ := pm_lt hf
        obtain ⟨k124, hf⟩ := pm_if hf
        obtain ⟨u125, hf⟩ := pm_if hf
        obtain ⟨v126, e127, hf⟩ := pm_bd hf
        obtain ⟨v128, e129, hf⟩ := pm_bd hf
        obtain ⟨k130, hf⟩ := pm_if hf
        obtain ⟨u131, hf⟩ := pm_if hf
        obtain ⟨y132, e133, hf⟩ := pm_lt hf
        obtain ⟨k134, hf⟩ := pm_if hf
        obtain ⟨u135, hf⟩ := pm_if hf
        obtain ⟨v136, e137, hf⟩ := pm_bd hf
        obtain ⟨v138, e139, hf⟩ := pm_bd hf
        obtain ⟨k140, hf⟩ := pm_if hf
        obtain ⟨u141, hf⟩ := pm_if hf
        obtain ⟨v142, e143, hf⟩ := pm_bd hf
        have K144 := rgX16_constant (pr_sI (pr_sI K0 (pr_c K0 Hx0 e117)) (pr_c (pr_sI K0 (pr_c K0 Hx0 e117)) Hx0 e127)) Hx0 e143
        obtain ⟨k145, hf⟩ := pm_if hf
        obtain ⟨u146, hf⟩ := pm_if hf
        obtain ⟨k147, hf⟩ := pm_if hf
        obtain ⟨v148, e149, hf⟩ := pm_bd hf
        obtain ⟨k150, hf⟩ := pm_if hf
        obtain ⟨v151, e152, hf⟩ := pm_bd hf
        obtain ⟨v153, e154, hf⟩ := pm_bd hf
        have K155 := rgX16_has (pr_sL K144 (pr_c (pr_sI (pr_sI K0 (pr_c K0 Hx0 e117)) (pr_c (pr_sI K0 (pr_c K0 Hx0 e117)) Hx0 e127)) Hx0 e137)) Hx0 e154
        obtain ⟨k156, hf⟩ := pm_if hf
        obtain ⟨y157, e158, hf⟩ := pm_lt hf
        obtain ⟨y159, e160, hf⟩ := pm_lt hf
        cases hf
        exact ih.2.2.2.1 x0 x1 y159 (pm_setI v153 x0 58 y157) (pr_sI K155 Hx0) Hx0 hi
    refine ⟨fun x0 x1 x3 h K0 Hx0 hf => ?_, ?_⟩
    · obtain ⟨y, hf, hi⟩ := pm_iter_s hf
      have hf : tX16_takesOwn_372 x0 x1 x3 h = some y := hf
      unfold tX16_takesOwn_372 at hf
      obtain ⟨k161, hf⟩ := pm_if hf
      obtain ⟨v162, e163, hf⟩ := pm_bd hf
      obtain ⟨k164, hf⟩ := pm_if hf
      by_cases c165 : (pm_I h v162 34) ≤ x3
      · have hf := pm_it hf c165
        cases hf
        exact ih.2.2.2.2.2 x0 x1 0 h K0 Hx0 hi
      · have hf := pm_ie hf c165
        obtain ⟨v166, e167, hf⟩ := pm_bd hf
        have K168 := rgX16_takesElement K0 Hx0 e167
        obtain ⟨y169, e170, hf⟩ := pm_lt hf
        cases hf
        exact ih.2.2.2.2.1 x0 x1 y169 v166 K168 Hx0 hi
    refine fun x0 x1 x3 h K0 Hx0 hf => ?_
    obtain ⟨y, hf, hi⟩ := pm_iter_s hf
    have hf : tX16_takesOwn_397 x0 x1 x3 h = some y := hf
    unfold tX16_takesOwn_397 at hf
    obtain ⟨k171, hf⟩ := pm_if hf
    obtain ⟨v172, e173, hf⟩ := pm_bd hf
    obtain ⟨k174, hf⟩ := pm_if hf
    by_cases c175 : (pm_I h v172 44) ≤ x3
    · have hf := pm_it hf c175
      cases hf
      cases hi
      exact K0
    · have hf := pm_ie hf c175
      obtain ⟨v176, e177, hf⟩ := pm_bd hf
      obtain ⟨k178, hf⟩ := pm_if hf
      obtain ⟨u179, hf⟩ := pm_if hf
      obtain ⟨y180, e181, hf⟩ := pm_lt hf
      cases hf
      exact ih.2.2.2.2.2 x0 x1 y180 (pm_setI h v176 (((64 * x1) + x3).toNatClampNeg) (vp_nar .boolean 1)) (pr_sI K0 (pr_c K0 Hx0 e177)) Hx0 hi
set_option maxHeartbeats 4000000 in
set_option maxRecDepth 100000 in
theorem rgX16_takesOwn {A : Nat → Prop} {h0 h : pm_H} (K0 : pr_F A h0 h) {a0 : Nat} {p1 : Int32} {p2 : Int32} (Ha0 : A a0) {r : pm_H} (hf : fX16_takesOwn h a0 p1 p2 = some r) : pr_F A h0 r := by
  unfold fX16_takesOwn at hf
  obtain ⟨n, hn⟩ := pm_lim_iter hf
  exact (rlX16_takesOwn n).1 a0 p1 p2 0 h K0 Ha0 hn
set_option maxHeartbeats 4000000 in
set_option maxRecDepth 100000 in
theorem rgX16_towards_b276 {A : Nat → Prop} {h0 h : pm_H} (K0 : pr_F A h0 h) {x0 : Nat} {x4 : Int32} {x5 : Int32} {x11 : Int64} {x13 : Int32} {s0 : Int64} (Hx0 : A x0) {r : (Int64 × pm_H)} (hf : fX16_towards_b276 h x0 x4 x5 x11 x13 s0 = some r) : pr_F A h0 r.2 := by
  unfold fX16_towards_b276 at hf
  by_cases c63 : x13 = 0
  · have hf := pm_it hf c63
    by_cases c64 : x4 = 32
    · have hf := pm_it hf c64
      cases hf
      exact K0
    · have hf := pm_ie hf c64
      cases hf
      exact K0
  · have hf := pm_ie hf c63
    obtain ⟨k65, hf⟩ := pm_if hf
    obtain ⟨v66, e67, hf⟩ := pm_bd hf
    obtain ⟨k68, hf⟩ := pm_if hf
    by_cases c69 : (pm_I h v66 0) = 0
    · have hf := pm_it hf c69
      by_cases c70 : x5 = 0
      · have hf := pm_it hf c70
        by_cases c71 : x4 = 32
        · have hf := pm_it hf c71
          cases hf
          exact K0
        · have hf := pm_ie hf c71
          cases hf
          exact K0
      · have hf := pm_ie hf c70
        obtain ⟨y72, e73, hf⟩ := pm_lt hf
        by_cases c74 : x4 = 32
        · have hf := pm_it hf c74
          cases hf
          exact K0
        · have hf := pm_ie hf c74
          cases hf
          exact K0
    · have hf := pm_ie hf c69
      by_cases c75 : x5 = 0
      · have hf := pm_it hf c75
        by_cases c76 : x4 = 32
        · have hf := pm_it hf c76
          cases hf
          exact K0
        · have hf := pm_ie hf c76
          cases hf
          exact K0
      · have hf := pm_ie hf c75
        obtain ⟨y77, e78, hf⟩ := pm_lt hf
        by_cases c79 : x4 = 32
        · have hf := pm_it hf c79
          cases hf
          exact K0
        · have hf := pm_ie hf c79
          cases hf
          exact K0
set_option maxHeartbeats 4000000 in
set_option maxRecDepth 100000 in
theorem rgX16_towards_b258 {A : Nat → Prop} {h0 h : pm_H} (K0 : pr_F A h0 h) {x0 : Nat} {x4 : Int32} {x5 : Int32} {x9 : Int64} {x11 : Int64} {x13 : Int32} (Hx0 : A x0) {r : (Int64 × pm_H)} (hf : fX16_towards_b258 h x0 x4 x5 x9 x11 x13 = some r) : pr_F A h0 r.2 := by
  unfold fX16_towards_b258 at hf
  obtain ⟨k58, hf⟩ := pm_if hf
  obtain ⟨v59, e60, hf⟩ := pm_bd hf
  obtain ⟨k61, hf⟩ := pm_if hf
  by_cases c62 : (pm_I h v59 0) = 0
  · have hf := pm_it hf c62
    exact rgX16_towards_b276 K0 Hx0 hf
  · have hf := pm_ie hf c62
    exact rgX16_towards_b276 K0 Hx0 hf
set_option maxHeartbeats 4000000 in
set_option maxRecDepth 100000 in
theorem rgX16_towards_b241 {A : Nat → Prop} {h0 h : pm_H} (K0 : pr_F A h0 h) {x0 : Nat} {x4 : Int32} {x5 : Int32} {x6 : Int32} {x9 : Int64} {x11 : Int64} {s0 : Int32} (Hx0 : A x0) {r : (Int64 × pm_H)} (hf : fX16_towards_b241 h x0 x4 x5 x6 x9 x11 s0 = some r) : pr_F A h0 r.2 := by
  unfold fX16_towards_b241 at hf
  by_cases c52 : s0 = 0
  · have hf := pm_it hf c52
    exact rgX16_towards_b258 K0 Hx0 hf
  · have hf := pm_ie hf c52
    by_cases c53 : x6 = 0
    · have hf := pm_it hf c53
      obtain ⟨k54, hf⟩ := pm_if hf
      obtain ⟨v55, e56, hf⟩ := pm_bd hf
      have K57 := rgX16_traps K0 Hx0 e56
      exact rgX16_towards_b258 K57 Hx0 hf
    · have hf := pm_ie hf c53
      exact rgX16_towards_b258 K0 Hx0 hf
set_option maxHeartbeats 4000000 in
set_option maxRecDepth 100000 in
theorem rgX16_towards_b240 {A : Nat → Prop} {h0 h : pm_H} (K0 : pr_F A h0 h) {x0 : Nat} {x4 : Int32} {x5 : Int32} {x6 : Int32} {x9 : Int64} {x11 : Int64} (Hx0 : A x0) {r : (Int64 × pm_H)} (hf : fX16_towards_b240 h x0 x4 x5 x6 x9 x11 = some r) : pr_F A h0 r.2 := by
  unfold fX16_towards_b240 at hf
  exact rgX16_towards_b241 K0 Hx0 hf
set_option maxHeartbeats 4000000 in
set_option maxRecDepth 100000 in
theorem rgX16_towards_b236 {A : Nat → Prop} {h0 h : pm_H} (K0 : pr_F A h0 h) {x0 : Nat} {x4 : Int32} {x5 : Int32} {x6 : Int32} {x9 : Int64} {x11 : Int64} (Hx0 : A x0) {r : (Int64 × pm_H)} (hf : fX16_towards_b236 h x0 x4 x5 x6 x9 x11 = some r) : pr_F A h0 r.2 := by
  unfold fX16_towards_b236 at hf
  exact rgX16_towards_b241 K0 Hx0 hf
set_option maxHeartbeats 4000000 in
set_option maxRecDepth 100000 in
theorem rgX16_towards_b148 {A : Nat → Prop} {h0 h : pm_H} (K0 : pr_F A h0 h) {x0 : Nat} {x4 : Int32} {x5 : Int32} {x6 : Int32} {x8 : Int32} {s0 : Int64} (Hx0 : A x0) {r : (Int64 × pm_H)} (hf : fX16_towards_b148 h x0 x4 x5 x6 x8 s0 = some r) : pr_F A h0 r.2 := by
  unfold fX16_towards_b148 at hf
  obtain ⟨y33, e34, hf⟩ := pm_lt hf
  by_cases c35 : x8 = 0
  · have hf := pm_it hf c35
    obtain ⟨k36, hf⟩ := pm_if hf
    obtain ⟨v37, e38, hf⟩ := pm_bd hf
    obtain ⟨k39, hf⟩ := pm_if hf
    by_cases c40 : (pm_I h v37 0) = 0
    · have hf := pm_it hf c40
      by_cases c41 : x5 = 0
      · have hf := pm_it hf c41
        by_cases c42 : x4 = 32
        · have hf := pm_it hf c42
          by_cases c43 : ((s0.toUInt64 >>> ((32 : Int32).toInt64.toUInt64 &&& Int64.toUInt64 63)).toInt64) = 0
          · have hf := pm_it hf c43
            exact rgX16_towards_b240 K0 Hx0 hf
          · have hf := pm_ie hf c43
            exact rgX16_towards_b236 K0 Hx0 hf
        · have hf := pm_ie hf c42
          exact rgX16_towards_b240 K0 Hx0 hf
      · have hf := pm_ie hf c41
        obtain ⟨v44, e45, hf⟩ := pm_lt hf
        by_cases c46 : v44 = 0
        · have hf := pm_it hf c46
          exact rgX16_towards_b236 K0 Hx0 hf
        · have hf := pm_ie hf c46
          exact rgX16_towards_b240 K0 Hx0 hf
    · have hf := pm_ie hf c40
      by_cases c47 : x5 = 0
      · have hf := pm_it hf c47
        by_cases c48 : s0 = 0
        · have hf := pm_it hf c48
          exact rgX16_towards_b240 K0 Hx0 hf
        · have hf := pm_ie hf c48
          exact rgX16_towards_b236 K0 Hx0 hf
      · have hf := pm_ie hf c47
        obtain ⟨v49, e50, hf⟩ := pm_lt hf
        by_cases c51 : v49 = 0
        · have hf := pm_it hf c51
          exact rgX16_towards_b240 K0 Hx0 hf
        · have hf := pm_ie hf c51
          exact rgX16_towards_b236 K0 Hx0 hf
  · have hf := pm_ie hf c35
    exact rgX16_towards_b236 K0 Hx0 hf
set_option maxHeartbeats 4000000 in
set_option maxRecDepth 100000 in
theorem rgX16_towards_b115 {A : Nat → Prop} {h0 h : pm_H} (K0 : pr_F A h0 h) {x0 : Nat} {x4 : Int32} {x5 : Int32} {x6 : Int32} {x8 : Int32} (Hx0 : A x0) {r : (Int64 × pm_H)} (hf : fX16_towards_b115 h x0 x4 x5 x6 x8 = some r) : pr_F A h0 r.2 := by
  unfold fX16_towards_b115 at hf
  exact rgX16_towards_b148 K0 Hx0 hf
set_option maxHeartbeats 4000000 in
set_option maxRecDepth 100000 in
theorem rgX16_towards_b91 {A : Nat → Prop} {h0 h : pm_H} (K0 : pr_F A h0 h) {x0 : Nat} {x4 : Int32} {x5 : Int32} {x6 : Int32} {x7 : Int32} {s0 : Int32} (Hx0 : A x0) {r : (Int64 × pm_H)} (hf : fX16_towards_b91 h x0 x4 x5 x6 x7 s0 = some r) : pr_F A h0 r.2 := by
  unfold fX16_towards_b91 at hf
  obtain ⟨k25, hf⟩ := pm_if hf
  obtain ⟨v26, e27, hf⟩ := pm_bd hf
  obtain ⟨k28, hf⟩ := pm_if hf
  by_cases c29 : (pm_I h v26 1) = 0
  · have hf := pm_it hf c29
    by_cases c30 : s0 = 0
    · have hf := pm_it hf c30
      by_cases c31 : (-63) ≤ x7
      · have hf := pm_it hf c31
        by_cases c32 : 0 ≤ x7
        · have hf := pm_it hf c32
          exact rgX16_towards_b148 K0 Hx0 hf
        · have hf := pm_ie hf c32
          exact rgX16_towards_b148 K0 Hx0 hf
      · have hf := pm_ie hf c31
        exact rgX16_towards_b115 K0 Hx0 hf
    · have hf := pm_ie hf c30
      exact rgX16_towards_b115 K0 Hx0 hf
  · have hf := pm_ie hf c29
    exact rgX16_towards_b115 K0 Hx0 hf
set_option maxHeartbeats 4000000 in
set_option maxRecDepth 100000 in
theorem rgX16_towards_b90 {A : Nat → Prop} {h0 h : pm_H} (K0 : pr_F A h0 h) {x0 : Nat} {x4 : Int32} {x5 : Int32} {x6 : Int32} {x7 : Int32} (Hx0 : A x0) {r : (Int64 × pm_H)} (hf : fX16_towards_b90 h x0 x4 x5 x6 x7 = some r) : pr_F A h0 r.2 := by
  unfold fX16_towards_b90 at hf
  exact rgX16_towards_b91 K0 Hx0 hf
set_option maxHeartbeats 4000000 in
set_option maxRecDepth 100000 in
theorem rgX16_towards_b86 {A : Nat → Prop} {h0 h : pm_H} (K0 : pr_F A h0 h) {x0 : Nat} {x4 : Int32} {x5 : Int32} {x6 : Int32} {x7 : Int32} (Hx0 : A x0) {r : (Int64 × pm_H)} (hf : fX16_towards_b86 h x0 x4 x5 x6 x7 = some r) : pr_F A h0 r.2 := by
  unfold fX16_towards_b86 at hf
  exact rgX16_towards_b91 K0 Hx0 hf
set_option maxHeartbeats 4000000 in
set_option maxRecDepth 100000 in
theorem rgX16_towards {A : Nat → Prop} {h0 h : pm_H} (K0 : pr_F A h0 h) {a0 : Nat} {p1 : Int32} {p2 : Int64} {p3 : Int32} {p4 : Int32} {p5 : Int32} (Ha0 : A a0) {r : (Int64 × pm_H)} (hf : fX16_towards h a0 p1 p2 p3 p4 p5 = some r) : pr_F A h0 r.2 := by
  unfold fX16_towards at hf
  obtain ⟨k1, hf⟩ := pm_if hf
  obtain ⟨v2, e3, hf⟩ := pm_bd hf
  obtain ⟨k4, hf⟩ := pm_if hf
  obtain ⟨v5, e6, hf⟩ := pm_bd hf
  have K7 := rgX15_read K0 (pr_c K0 Ha0 e3) e6
  obtain ⟨k8, hf⟩ := pm_if hf
  obtain ⟨v9, e10, hf⟩ := pm_bd hf
  obtain ⟨k11, hf⟩ := pm_if hf
  by_cases c12 : (pm_I v5 v9 1) = 3
  · have hf := pm_it hf c12
    by_cases c13 : p5 = 0
    · have hf := pm_it hf c13
      obtain ⟨v14, e15, hf⟩ := pm_bd hf
      have K16 := rgX16_traps K7 Ha0 e15
      cases hf
      exact K16
    · have hf := pm_ie hf c13
      cases hf
      exact K7
  · have hf := pm_ie hf c12
    obtain ⟨y17, e18, hf⟩ := pm_lt hf
    by_cases c19 : (pm_I v5 v9 1) = 2
    · have hf := pm_it hf c19
      exact rgX16_towards_b86 K7 Ha0 hf
    · have hf := pm_ie hf c19
      by_cases c20 : (pm_I v5 v9 1) = 0
      · have hf := pm_it hf c20
        by_cases c21 : y17 ≤ 0
        · have hf := pm_it hf c21
          exact rgX16_towards_b90 K7 Ha0 hf
        · have hf := pm_ie hf c21
          obtain ⟨v22, e23, hf⟩ := pm_bd hf
          by_cases c24 : (v22 + y17) ≤ 64
          · have hf := pm_it hf c24
            exact rgX16_towards_b90 K7 Ha0 hf
          · have hf := pm_ie hf c24
            exact rgX16_towards_b86 K7 Ha0 hf
      · have hf := pm_ie hf c20
        exact rgX16_towards_b90 K7 Ha0 hf
set_option maxHeartbeats 4000000 in
set_option maxRecDepth 100000 in
theorem rgX16_wholeOf_b204 {A : Nat → Prop} {h0 h : pm_H} (K0 : pr_F A h0 h) {x0 : Nat} {x2 : Int32} {x6 : Int64} {s0 : Int32} (Hx0 : A x0) {r : (Int64 × pm_H)} (hf : fX16_wholeOf_b204 h x0 x2 x6 s0 = some r) : pr_F A h0 r.2 := by
  unfold fX16_wholeOf_b204 at hf
  by_cases c43 : s0 = 0
  · have hf := pm_it hf c43
    by_cases c44 : x6 = 0
    · have hf := pm_it hf c44
      obtain ⟨k45, hf⟩ := pm_if hf
      obtain ⟨v46, e47, hf⟩ := pm_bd hf
      obtain ⟨k48, hf⟩ := pm_if hf
      obtain ⟨v49, e50, hf⟩ := pm_lt hf
      cases hf
      exact K0
    · have hf := pm_ie hf c44
      obtain ⟨k51, hf⟩ := pm_if hf
      obtain ⟨v52, e53, hf⟩ := pm_bd hf
      obtain ⟨k54, hf⟩ := pm_if hf
      obtain ⟨v55, e56, hf⟩ := pm_bd hf
      cases hf
      exact K0
  · have hf := pm_ie hf c43
    obtain ⟨y57, e58, hf⟩ := pm_lt hf
    by_cases c59 : y57 = 0
    · have hf := pm_it hf c59
      obtain ⟨k60, hf⟩ := pm_if hf
      obtain ⟨v61, e62, hf⟩ := pm_bd hf
      obtain ⟨k63, hf⟩ := pm_if hf
      obtain ⟨v64, e65, hf⟩ := pm_lt hf
      cases hf
      exact K0
    · have hf := pm_ie hf c59
      obtain ⟨k66, hf⟩ := pm_if hf
      obtain ⟨v67, e68, hf⟩ := pm_bd hf
      obtain ⟨k69, hf⟩ := pm_if hf
      obtain ⟨v70, e71, hf⟩ := pm_bd hf
      cases hf
      exact K0
set_option maxHeartbeats 4000000 in
set_option maxRecDepth 100000 in
theorem rgX16_wholeOf_b203 {A : Nat → Prop} {h0 h : pm_H} (K0 : pr_F A h0 h) {x0 : Nat} {x2 : Int32} {x6 : Int64} (Hx0 : A x0) {r : (Int64 × pm_H)} (hf : fX16_wholeOf_b203 h x0 x2 x6 = some r) : pr_F A h0 r.2 := by
  unfold fX16_wholeOf_b203 at hf
  exact rgX16_wholeOf_b204 K0 Hx0 hf
set_option maxHeartbeats 4000000 in
set_option maxRecDepth 100000 in
theorem rgX16_wholeOf_b199 {A : Nat → Prop} {h0 h : pm_H} (K0 : pr_F A h0 h) {x0 : Nat} {x2 : Int32} {x6 : Int64} (Hx0 : A x0) {r : (Int64 × pm_H)} (hf : fX16_wholeOf_b199 h x0 x2 x6 = some r) : pr_F A h0 r.2 := by
  unfold fX16_wholeOf_b199 at hf
  exact rgX16_wholeOf_b204 K0 Hx0 hf
set_option maxHeartbeats 4000000 in
set_option maxRecDepth 100000 in
theorem rgX16_wholeOf_b169 {A : Nat → Prop} {h0 h : pm_H} (K0 : pr_F A h0 h) {x0 : Nat} {x1 : Int32} {x2 : Int32} {x6 : Int64} {x8 : Int64} {x10 : Int64} (Hx0 : A x0) {r : (Int64 × pm_H)} (hf : fX16_wholeOf_b169 h x0 x1 x2 x6 x8 x10 = some r) : pr_F A h0 r.2 := by
  unfold fX16_wholeOf_b169 at hf
  by_cases c72 : x1 = 3
  · have hf := pm_it hf c72
    by_cases c73 : x10 < x8
    · have hf := pm_it hf c73
      exact rgX16_wholeOf_b199 K0 Hx0 hf
    · have hf := pm_ie hf c73
      by_cases c74 : x8 = x10
      · have hf := pm_it hf c74
        by_cases c75 : (x6 &&& 1) = 1
        · have hf := pm_it hf c75
          exact rgX16_wholeOf_b199 K0 Hx0 hf
        · have hf := pm_ie hf c75
          exact rgX16_wholeOf_b203 K0 Hx0 hf
      · have hf := pm_ie hf c74
        exact rgX16_wholeOf_b203 K0 Hx0 hf
  · have hf := pm_ie hf c72
    exact rgX16_wholeOf_b203 K0 Hx0 hf
set_option maxHeartbeats 4000000 in
set_option maxRecDepth 100000 in
theorem rgX16_wholeOf_b154 {A : Nat → Prop} {h0 h : pm_H} (K0 : pr_F A h0 h) {x0 : Nat} {x1 : Int32} {x2 : Int32} {x6 : Int64} {x8 : Int64} {x10 : Int64} (Hx0 : A x0) {r : (Int64 × pm_H)} (hf : fX16_wholeOf_b154 h x0 x1 x2 x6 x8 x10 = some r) : pr_F A h0 r.2 := by
  unfold fX16_wholeOf_b154 at hf
  by_cases c37 : x1 = 1
  · have hf := pm_it hf c37
    obtain ⟨k38, hf⟩ := pm_if hf
    obtain ⟨v39, e40, hf⟩ := pm_bd hf
    obtain ⟨k41, hf⟩ := pm_if hf
    by_cases c42 : (pm_I h v39 0) = 0
    · have hf := pm_it hf c42
      exact rgX16_wholeOf_b169 K0 Hx0 hf
    · have hf := pm_ie hf c42
      exact rgX16_wholeOf_b199 K0 Hx0 hf
  · have hf := pm_ie hf c37
    exact rgX16_wholeOf_b169 K0 Hx0 hf
set_option maxHeartbeats 4000000 in
set_option maxRecDepth 100000 in
theorem rgX16_wholeOf_b131 {A : Nat → Prop} {h0 h : pm_H} (K0 : pr_F A h0 h) {x0 : Nat} {x1 : Int32} {x2 : Int32} {x6 : Int64} {x8 : Int64} {s0 : Int64} (Hx0 : A x0) {r : (Int64 × pm_H)} (hf : fX16_wholeOf_b131 h x0 x1 x2 x6 x8 s0 = some r) : pr_F A h0 r.2 := by
  unfold fX16_wholeOf_b131 at hf
  by_cases c30 : x8 = 0
  · have hf := pm_it hf c30
    exact rgX16_wholeOf_b203 K0 Hx0 hf
  · have hf := pm_ie hf c30
    by_cases c31 : x1 = 0
    · have hf := pm_it hf c31
      obtain ⟨k32, hf⟩ := pm_if hf
      obtain ⟨v33, e34, hf⟩ := pm_bd hf
      obtain ⟨k35, hf⟩ := pm_if hf
      by_cases c36 : (pm_I h v33 0) = 0
      · have hf := pm_it hf c36
        exact rgX16_wholeOf_b199 K0 Hx0 hf
      · have hf := pm_ie hf c36
        exact rgX16_wholeOf_b154 K0 Hx0 hf
    · have hf := pm_ie hf c31
      exact rgX16_wholeOf_b154 K0 Hx0 hf
set_option maxHeartbeats 4000000 in
set_option maxRecDepth 100000 in
theorem rgX16_wholeOf_b110 {A : Nat → Prop} {h0 h : pm_H} (K0 : pr_F A h0 h) {x0 : Nat} {x1 : Int32} {x2 : Int32} {x5 : Int32} {x6 : Int64} {s0 : Int64} (Hx0 : A x0) {r : (Int64 × pm_H)} (hf : fX16_wholeOf_b110 h x0 x1 x2 x5 x6 s0 = some r) : pr_F A h0 r.2 := by
  unfold fX16_wholeOf_b110 at hf
  by_cases c29 : x5 ≤ 62
  · have hf := pm_it hf c29
    exact rgX16_wholeOf_b131 K0 Hx0 hf
  · have hf := pm_ie hf c29
    exact rgX16_wholeOf_b131 K0 Hx0 hf
set_option maxHeartbeats 4000000 in
set_option maxRecDepth 100000 in
theorem rgX16_wholeOf_b78 {A : Nat → Prop} {h0 h : pm_H} (K0 : pr_F A h0 h) {x0 : Nat} {x1 : Int32} {x2 : Int32} {x5 : Int32} {s0 : Int64} (Hx0 : A x0) {r : (Int64 × pm_H)} (hf : fX16_wholeOf_b78 h x0 x1 x2 x5 s0 = some r) : pr_F A h0 r.2 := by
  unfold fX16_wholeOf_b78 at hf
  by_cases c20 : x5 ≤ 62
  · have hf := pm_it hf c20
    obtain ⟨k21, hf⟩ := pm_if hf
    obtain ⟨v22, e23, hf⟩ := pm_bd hf
    obtain ⟨k24, hf⟩ := pm_if hf
    exact rgX16_wholeOf_b110 K0 Hx0 hf
  · have hf := pm_ie hf c20
    obtain ⟨k25, hf⟩ := pm_if hf
    obtain ⟨v26, e27, hf⟩ := pm_bd hf
    obtain ⟨k28, hf⟩ := pm_if hf
    exact rgX16_wholeOf_b110 K0 Hx0 hf
set_option maxHeartbeats 4000000 in
set_option maxRecDepth 100000 in
theorem rgX16_wholeOf {A : Nat → Prop} {h0 h : pm_H} (K0 : pr_F A h0 h) {a0 : Nat} {p1 : Int32} {p2 : Int32} {p3 : Int64} (Ha0 : A a0) {r : (Int64 × pm_H)} (hf : fX16_wholeOf h a0 p1 p2 p3 = some r) : pr_F A h0 r.2 := by
  unfold fX16_wholeOf at hf
  obtain ⟨k1, hf⟩ := pm_if hf
  obtain ⟨v2, e3, hf⟩ := pm_bd hf
  obtain ⟨k4, hf⟩ := pm_if hf
  obtain ⟨v5, e6, hf⟩ := pm_bd hf
  have K7 := rgX15_read K0 (pr_c K0 Ha0 e3) e6
  obtain ⟨k8, hf⟩ := pm_if hf
  obtain ⟨v9, e10, hf⟩ := pm_bd hf
  obtain ⟨k11, hf⟩ := pm_if hf
  by_cases c12 : (pm_I v5 v9 1) = 3
  · have hf := pm_it hf c12
    obtain ⟨v13, e14, hf⟩ := pm_lt hf
    cases hf
    exact K7
  · have hf := pm_ie hf c12
    by_cases c15 : (pm_I v5 v9 1) = 0
    · have hf := pm_it hf c15
      by_cases c16 : (pm_I v5 v9 3) < 0
      · have hf := pm_it hf c16
        obtain ⟨y17, e18, hf⟩ := pm_lt hf
        by_cases c19 : y17 ≤ 62
        · have hf := pm_it hf c19
          exact rgX16_wholeOf_b78 K7 Ha0 hf
        · have hf := pm_ie hf c19
          exact rgX16_wholeOf_b78 K7 Ha0 hf
      · have hf := pm_ie hf c16
        cases hf
        exact K7
    · have hf := pm_ie hf c15
      cases hf
      exact K7
set_option maxHeartbeats 4000000 in
set_option maxRecDepth 100000 in
theorem rgX1_die {A : Nat → Prop} {h0 h : pm_H} (K0 : pr_F A h0 h) {a0 : Nat} (Ha0 : A a0) {r : pm_H} (hf : fX1_die h a0 = some r) : pr_F A h0 r := by
  unfold fX1_die at hf
  obtain ⟨k1, hf⟩ := pm_if hf
  obtain ⟨y2, e3, hf⟩ := pm_lt hf
  obtain ⟨v4, e5, hf⟩ := pm_bd hf
  obtain ⟨v6, e7, hf⟩ := pm_bd hf
  have K8 := rgX1_setLabel (pr_sI K0 Ha0) Ha0 e7
  cases hf
  exact K8
set_option maxHeartbeats 4000000 in
set_option maxRecDepth 100000 in
theorem rgX1_emit {A : Nat → Prop} {h0 h : pm_H} (K0 : pr_F A h0 h) {a0 : Nat} {p1 : Int32} {p2 : Int32} {p3 : Int32} {p4 : Int32} (Ha0 : A a0) {r : (Int32 × pm_H)} (hf : fX1_emit h a0 p1 p2 p3 p4 = some r) : pr_F A h0 r.2 := by
  unfold fX1_emit at hf
  obtain ⟨k1, hf⟩ := pm_if hf
  obtain ⟨v2, e3, hf⟩ := pm_bd hf
  by_cases c4 : v2 = 0
  · have hf := pm_it hf c4
    cases hf
    exact K0
  · have hf := pm_ie hf c4
    obtain ⟨v5, e6, hf⟩ := pm_bd hf
    obtain ⟨k7, hf⟩ := pm_if hf
    obtain ⟨v8, e9, hf⟩ := pm_bd hf
    have K10 := rgX0_emit K0 (pr_c K0 Ha0 e6) e9
    cases hf
    exact K10
set_option maxHeartbeats 4000000 in
set_option maxRecDepth 100000 in
theorem rgX1_emitPlain {A : Nat → Prop} {h0 h : pm_H} (K0 : pr_F A h0 h) {a0 : Nat} {p1 : Int32} {p2 : Int32} (Ha0 : A a0) {r : pm_H} (hf : fX1_emitPlain h a0 p1 p2 = some r) : pr_F A h0 r := by
  unfold fX1_emitPlain at hf
  obtain ⟨k1, hf⟩ := pm_if hf
  obtain ⟨v2, e3, hf⟩ := pm_bd hf
  obtain ⟨k4, hf⟩ := pm_if hf
  by_cases c5 : p2 = 0
  · have hf := pm_it hf c5
    obtain ⟨v6, e7, hf⟩ := pm_bd hf
    have K8 := rgX1_emit K0 Ha0 e7
    cases hf
    exact K8
  · have hf := pm_ie hf c5
    obtain ⟨v9, e10, hf⟩ := pm_bd hf
    have K11 := rgX1_emit K0 Ha0 e10
    cases hf
    exact K11
set_option maxHeartbeats 4000000 in
set_option maxRecDepth 100000 in
theorem rlX1_exportsAreRight {A : Nat → Prop} {h0 : pm_H} {r : pm_H} : ∀ n : Nat, (∀ (x0 : Nat) (x1 : Int32) (h : pm_H), pr_F A h0 h → A x0 → pm_iter sX1_exportsAreRight n (.inl (x0, x1, h)) = some r → pr_F A h0 r) ∧ (∀ (x0 : Nat) (x1 : Int32) (x4 : Int32) (h : pm_H), pr_F A h0 h → A x0 → pm_iter sX1_exportsAreRight n (.inr (x0, x1, x4, h)) = some r → pr_F A h0 r) := by
  intro n
  induction n with
  | zero => exact ⟨fun _ _ _ _ _ hf => (by cases hf), fun _ _ _ _ _ _ hf => (by cases hf)⟩
  | succ n ih =>
    refine ⟨fun x0 x1 h K0 Hx0 hf => ?_, ?_⟩
    · obtain ⟨y, hf, hi⟩ := pm_iter_s hf
      have hf : tX1_exportsAreRight_2 x0 x1 h = some y := hf
      unfold tX1_exportsAreRight_2 at hf
      obtain ⟨k1, hf⟩ := pm_if hf
      obtain ⟨v2, e3, hf⟩ := pm_bd hf
      obtain ⟨k4, hf⟩ := pm_if hf
      obtain ⟨v5, e6, hf⟩ := pm_bd hf
      obtain ⟨k7, hf⟩ := pm_if hf
      by_cases c8 : (Int32.ofNat (pm_ln h v5)) ≤ x1
      · have hf := pm_it hf c8
        cases hf
        cases hi
        exact K0
      · have hf := pm_ie hf c8
        obtain ⟨v9, e10, hf⟩ := pm_bd hf
        obtain ⟨v11, e12, hf⟩ := pm_bd hf
        obtain ⟨v13, e14, hf⟩ := pm_bd hf
        by_cases c15 : v13 = 0
        · have hf := pm_it hf c15
          obtain ⟨v16, e17, hf⟩ := pm_bd hf
          have K18 := rgX1_failSection K0 Hx0 e17
          by_cases c19 : v9 = 0
          · have hf := pm_it hf c19
            obtain ⟨k20, hf⟩ := pm_if hf
            obtain ⟨v21, e22, hf⟩ := pm_bd hf
            have K23 := rgX1_declare K18 Hx0 e22
            cases hf
            exact ih.2 x0 x1 0 v21 K23 Hx0 hi
          · have hf := pm_ie hf c19
            cases hf
            exact ih.2 x0 x1 0 v16 K18 Hx0 hi
        · have hf := pm_ie hf c15
          by_cases c24 : v9 = 0
          · have hf := pm_it hf c24
            obtain ⟨v25, e26, hf⟩ := pm_bd hf
            have K27 := rgX1_declare K0 Hx0 e26
            cases hf
            exact ih.2 x0 x1 0 v25 K27 Hx0 hi
          · have hf := pm_ie hf c24
            cases hf
            exact ih.2 x0 x1 0 h K0 Hx0 hi
    refine fun x0 x1 x4 h K0 Hx0 hf => ?_
    obtain ⟨y, hf, hi⟩ := pm_iter_s hf
    have hf : tX1_exportsAreRight_76 x0 x1 x4 h = some y := hf
    unfold tX1_exportsAreRight_76 at hf
    by_cases c28 : x1 ≤ x4
    · have hf := pm_it hf c28
      obtain ⟨y29, e30, hf⟩ := pm_lt hf
      cases hf
      exact ih.1 x0 y29 h K0 Hx0 hi
    · have hf := pm_ie hf c28
      obtain ⟨k31, hf⟩ := pm_if hf
      obtain ⟨v32, e33, hf⟩ := pm_bd hf
      by_cases c34 : v32 = 0
      · have hf := pm_it hf c34
        obtain ⟨y35, e36, hf⟩ := pm_lt hf
        cases hf
        exact ih.2 x0 x1 y35 h K0 Hx0 hi
      · have hf := pm_ie hf c34
        obtain ⟨v37, e38, hf⟩ := pm_bd hf
        have K39 := rgX1_failSection K0 Hx0 e38
        obtain ⟨y40, e41, hf⟩ := pm_lt hf
        cases hf
        exact ih.2 x0 x1 y40 v37 K39 Hx0 hi
set_option maxHeartbeats 4000000 in
set_option maxRecDepth 100000 in
theorem rgX1_exportsAreRight {A : Nat → Prop} {h0 h : pm_H} (K0 : pr_F A h0 h) {a0 : Nat} (Ha0 : A a0) {r : pm_H} (hf : fX1_exportsAreRight h a0 = some r) : pr_F A h0 r := by
  unfold fX1_exportsAreRight at hf
  obtain ⟨n, hn⟩ := pm_lim_iter hf
  exact (rlX1_exportsAreRight n).1 a0 0 h K0 Ha0 hn
set_option maxHeartbeats 4000000 in
set_option maxRecDepth 100000 in
theorem rlX1_limitsAreRight {A : Nat → Prop} {h0 : pm_H} {r : pm_H} : ∀ n : Nat, (∀ (x0 : Nat) (x1 : Int32) (h : pm_H), pr_F A h0 h → A x0 → pm_iter sX1_limitsAreRight n (.inl (x0, x1, h)) = some r → pr_F A h0 r) ∧ (∀ (x0 : Nat) (x1 : Int32) (h : pm_H), pr_F A h0 h → A x0 → pm_iter sX1_limitsAreRight n (.inr (.inl (x0, x1, h))) = some r → pr_F A h0 r) ∧ (∀ (x0 : Nat) (x1 : Int32) (h : pm_H), pr_F A h0 h → A x0 → pm_iter sX1_limitsAreRight n (.inr (.inr (x0, x1, h))) = some r → pr_F A h0 r) := by
  intro n
  induction n with
  | zero => exact ⟨fun _ _ _ _ _ hf => (by cases hf), fun _ _ _ _ _ hf => (by cases hf), fun _ _ _ _ _ hf => (by cases hf)⟩
  | succ n ih =>
    refine ⟨fun x0 x1 h K0 Hx0 hf => ?_, ?_⟩
    · obtain ⟨y, hf, hi⟩ := pm_iter_s hf
      have hf : tX1_limitsAreRight_2 x0 x1 h = some y := hf
      unfold tX1_limitsAreRight_2 at hf
      obtain ⟨k1, hf⟩ := pm_if hf
      obtain ⟨v2, e3, hf⟩ := pm_bd hf
      obtain ⟨k4, hf⟩ := pm_if hf
      obtain ⟨v5, e6, hf⟩ := pm_bd hf
      obtain ⟨k7, hf⟩ := pm_if hf
      by_cases c8 : (Int32.ofNat (pm_ln h v5)) ≤ x1
      · have hf := pm_it hf c8
        obtain ⟨v9, e10, hf⟩ := pm_bd hf
        cases hf
        exact ih.2.1 x0 v9 h K0 Hx0 hi
      · have hf := pm_ie hf c8
        obtain ⟨v11, e12, hf⟩ := pm_bd hf
        by_cases c13 : v11 = 0
        · have hf := pm_it hf c13
          obtain ⟨v14, e15, hf⟩ := pm_bd hf
          have K16 := rgX1_failSection K0 Hx0 e15
          obtain ⟨y17, e18, hf⟩ := pm_lt hf
          cases hf
          exact ih.1 x0 y17 v14 K16 Hx0 hi
        · have hf := pm_ie hf c13
          obtain ⟨y19, e20, hf⟩ := pm_lt hf
          cases hf
          exact ih.1 x0 y19 h K0 Hx0 hi
    refine ⟨fun x0 x1 h K0 Hx0 hf => ?_, ?_⟩
    · obtain ⟨y, hf, hi⟩ := pm_iter_s hf
      have hf : tX1_limitsAreRight_50 x0 x1 h = some y := hf
      unfold tX1_limitsAreRight_50 at hf
      obtain ⟨k21, hf⟩ := pm_if hf
      obtain ⟨v22, e23, hf⟩ := pm_bd hf
      obtain ⟨k24, hf⟩ := pm_if hf
      obtain ⟨v25, e26, hf⟩ := pm_bd hf
      by_cases c27 : v25 ≤ x1
      · have hf := pm_it hf c27
        obtain ⟨v28, e29, hf⟩ := pm_bd hf
        cases hf
        exact ih.2.2 x0 v28 h K0 Hx0 hi
      · have hf := pm_ie hf c27
        obtain ⟨v30, e31, hf⟩ := pm_bd hf
        obtain ⟨v32, e33, hf⟩ := pm_bd hf
        by_cases c34 : v32 = 0
        · have hf := pm_it hf c34
          obtain ⟨v35, e36, hf⟩ := pm_bd hf
          have K37 := rgX1_failSection K0 Hx0 e36
          obtain ⟨y38, e39, hf⟩ := pm_lt hf
          cases hf
          exact ih.2.1 x0 y38 v35 K37 Hx0 hi
        · have hf := pm_ie hf c34
          obtain ⟨y40, e41, hf⟩ := pm_lt hf
          cases hf
          exact ih.2.1 x0 y40 h K0 Hx0 hi
    refine fun x0 x1 h K0 Hx0 hf => ?_
    obtain ⟨y, hf, hi⟩ := pm_iter_s hf
    have hf : tX1_limitsAreRight_101 x0 x1 h = some y := hf
    unfold tX1_limitsAreRight_101 at hf
    obtain ⟨k42, hf⟩ := pm_if hf
    obtain ⟨v43, e44, hf⟩ := pm_bd hf
    obtain ⟨k45, hf⟩ := pm_if hf
    obtain ⟨v46, e47, hf⟩ := pm_bd hf
    by_cases c48 : v46 ≤ x1
    · have hf := pm_it hf c48
      cases hf
      cases hi
      exact K0
    · have hf := pm_ie hf c48
      obtain ⟨v49, e50, hf⟩ := pm_bd hf
      obtain ⟨v51, e52, hf⟩ := pm_bd hf
      by_cases c53 : v51 = 0
      · have hf := pm_it hf c53
        obtain ⟨v54, e55, hf⟩ := pm_bd hf
        have K56 := rgX1_failSection K0 Hx0 e55
        obtain ⟨y57, e58, hf⟩ := pm_lt hf
        cases hf
        exact ih.2.2 x0 y57 v54 K56 Hx0 hi
      · have hf := pm_ie hf c53
        obtain ⟨y59, e60, hf⟩ := pm_lt hf
        cases hf
        exact ih.2.2 x0 y59 h K0 Hx0 hi
set_option maxHeartbeats 4000000 in
set_option maxRecDepth 100000 in
theorem rgX1_limitsAreRight {A : Nat → Prop} {h0 h : pm_H} (K0 : pr_F A h0 h) {a0 : Nat} (Ha0 : A a0) {r : pm_H} (hf : fX1_limitsAreRight h a0 = some r) : pr_F A h0 r := by
  unfold fX1_limitsAreRight at hf
  obtain ⟨n, hn⟩ := pm_lim_iter hf
  exact (rlX1_limitsAreRight n).1 a0 0 h K0 Ha0 hn
set_option maxHeartbeats 4000000 in
set_option maxRecDepth 100000 in
theorem rgX1_memoryIsOne {A : Nat → Prop} {h0 h : pm_H} (K0 : pr_F A h0 h) {a0 : Nat} (Ha0 : A a0) {r : pm_H} (hf : fX1_memoryIsOne h a0 = some r) : pr_F A h0 r := by
  unfold fX1_memoryIsOne at hf
  obtain ⟨k1, hf⟩ := pm_if hf
  obtain ⟨v2, e3, hf⟩ := pm_bd hf
  obtain ⟨k4, hf⟩ := pm_if hf
  obtain ⟨v5, e6, hf⟩ := pm_bd hf
  by_cases c7 : 1 < v5
  · have hf := pm_it hf c7
    obtain ⟨v8, e9, hf⟩ := pm_bd hf
    obtain ⟨v10, e11, hf⟩ := pm_bd hf
    by_cases c12 : v10 < 0
    · have hf := pm_it hf c12
      obtain ⟨v13, e14, hf⟩ := pm_bd hf
      have K15 := rgX1_failSection K0 Ha0 e14
      cases hf
      exact K15
    · have hf := pm_ie hf c12
      obtain ⟨v16, e17, hf⟩ := pm_bd hf
      have K18 := rgX1_failSection K0 Ha0 e17
      cases hf
      exact K18
  · have hf := pm_ie hf c7
    cases hf
    exact K0
set_option maxHeartbeats 4000000 in
set_option maxRecDepth 100000 in
theorem rgX1_openLabel {A : Nat → Prop} {h0 h : pm_H} (K0 : pr_F A h0 h) {a0 : Nat} {p1 : Int32} {p2 : Int32} {p3 : Int32} {p4 : Int32} (Ha0 : A a0) {r : pm_H} (hf : fX1_openLabel h a0 p1 p2 p3 p4 = some r) : pr_F A h0 r := by
  unfold fX1_openLabel at hf
  obtain ⟨k1, hf⟩ := pm_if hf
  obtain ⟨y2, e3, hf⟩ := pm_lt hf
  obtain ⟨y4, e5, hf⟩ := pm_lt hf
  obtain ⟨v6, e7, hf⟩ := pm_bd hf
  have K8 := rgX1_setLabel (pr_sI K0 Ha0) Ha0 e7
  obtain ⟨k9, hf⟩ := pm_if hf
  obtain ⟨v10, e11, hf⟩ := pm_bd hf
  have K12 := rgX1_setLabel K8 Ha0 e11
  obtain ⟨k13, hf⟩ := pm_if hf
  obtain ⟨v14, e15, hf⟩ := pm_bd hf
  have K16 := rgX1_setLabel K12 Ha0 e15
  obtain ⟨k17, hf⟩ := pm_if hf
  obtain ⟨v18, e19, hf⟩ := pm_bd hf
  have K20 := rgX1_setLabel K16 Ha0 e19
  by_cases c21 : p3 = 0
  · have hf := pm_it hf c21
    obtain ⟨k22, hf⟩ := pm_if hf
    obtain ⟨v23, e24, hf⟩ := pm_bd hf
    have K25 := rgX1_setLabel K20 Ha0 e24
    obtain ⟨k26, hf⟩ := pm_if hf
    obtain ⟨v27, e28, hf⟩ := pm_bd hf
    have K29 := rgX1_setLabel K25 Ha0 e28
    obtain ⟨k30, hf⟩ := pm_if hf
    obtain ⟨v31, e32, hf⟩ := pm_bd hf
    have K33 := rgX1_setLabel K29 Ha0 e32
    cases hf
    exact K33
  · have hf := pm_ie hf c21
    obtain ⟨k34, hf⟩ := pm_if hf
    obtain ⟨v35, e36, hf⟩ := pm_bd hf
    have K37 := rgX1_setLabel K20 Ha0 e36
    obtain ⟨k38, hf⟩ := pm_if hf
    obtain ⟨v39, e40, hf⟩ := pm_bd hf
    have K41 := rgX1_setLabel K37 Ha0 e40
    obtain ⟨k42, hf⟩ := pm_if hf
    obtain ⟨v43, e44, hf⟩ := pm_bd hf
    have K45 := rgX1_setLabel K41 Ha0 e44
    cases hf
    exact K45
set_option maxHeartbeats 4000000 in
set_option maxRecDepth 100000 in
theorem rgX1_plain_b69 {A : Nat → Prop} {h0 h : pm_H} (K0 : pr_F A h0 h) {x0 : Nat} {x4 : Int32} {s0 : Int32} {s1 : Int32} (Hx0 : A x0) {r : pm_H} (hf : fX1_plain_b69 h x0 x4 s0 s1 = some r) : pr_F A h0 r := by
  unfold fX1_plain_b69 at hf
  obtain ⟨y24, e25, hf⟩ := pm_lt hf
  obtain ⟨k26, hf⟩ := pm_if hf
  obtain ⟨v27, e28, hf⟩ := pm_bd hf
  obtain ⟨k29, hf⟩ := pm_if hf
  by_cases c30 : x4 = 0
  · have hf := pm_it hf c30
    obtain ⟨v31, e32, hf⟩ := pm_bd hf
    have K33 := rgX1_emit K0 Hx0 e32
    cases hf
    exact K33
  · have hf := pm_ie hf c30
    obtain ⟨v34, e35, hf⟩ := pm_bd hf
    have K36 := rgX1_emit K0 Hx0 e35
    cases hf
    exact K36
set_option maxHeartbeats 4000000 in
set_option maxRecDepth 100000 in
theorem rgX1_plain_b59 {A : Nat → Prop} {h0 h : pm_H} (K0 : pr_F A h0 h) {x0 : Nat} {x3 : Int32} {x4 : Int32} {s0 : Int32} {s1 : Int32} (Hx0 : A x0) {r : pm_H} (hf : fX1_plain_b59 h x0 x3 x4 s0 s1 = some r) : pr_F A h0 r := by
  unfold fX1_plain_b59 at hf
  by_cases c23 : x3 = 0
  · have hf := pm_it hf c23
    exact rgX1_plain_b69 K0 Hx0 hf
  · have hf := pm_ie hf c23
    exact rgX1_plain_b69 K0 Hx0 hf
set_option maxHeartbeats 4000000 in
set_option maxRecDepth 100000 in
theorem rgX1_plain_b50 {A : Nat → Prop} {h0 h : pm_H} (K0 : pr_F A h0 h) {x0 : Nat} {x2 : Int32} {x3 : Int32} {x4 : Int32} {s0 : Int32} (Hx0 : A x0) {r : pm_H} (hf : fX1_plain_b50 h x0 x2 x3 x4 s0 = some r) : pr_F A h0 r := by
  unfold fX1_plain_b50 at hf
  by_cases c22 : x2 = 0
  · have hf := pm_it hf c22
    exact rgX1_plain_b59 K0 Hx0 hf
  · have hf := pm_ie hf c22
    exact rgX1_plain_b59 K0 Hx0 hf
set_option maxHeartbeats 4000000 in
set_option maxRecDepth 100000 in
theorem rgX1_plain_b41 {A : Nat → Prop} {h0 h : pm_H} (K0 : pr_F A h0 h) {x0 : Nat} {x1 : Int32} {x2 : Int32} {x3 : Int32} {x4 : Int32} (Hx0 : A x0) {r : pm_H} (hf : fX1_plain_b41 h x0 x1 x2 x3 x4 = some r) : pr_F A h0 r := by
  unfold fX1_plain_b41 at hf
  by_cases c21 : x1 = 0
  · have hf := pm_it hf c21
    exact rgX1_plain_b50 K0 Hx0 hf
  · have hf := pm_ie hf c21
    exact rgX1_plain_b50 K0 Hx0 hf
set_option maxHeartbeats 4000000 in
set_option maxRecDepth 100000 in
theorem rgX1_plain_b30 {A : Nat → Prop} {h0 h : pm_H} (K0 : pr_F A h0 h) {x0 : Nat} {x1 : Int32} {x2 : Int32} {x3 : Int32} {x4 : Int32} (Hx0 : A x0) {r : pm_H} (hf : fX1_plain_b30 h x0 x1 x2 x3 x4 = some r) : pr_F A h0 r := by
  unfold fX1_plain_b30 at hf
  by_cases c16 : x4 = 0
  · have hf := pm_it hf c16
    exact rgX1_plain_b41 K0 Hx0 hf
  · have hf := pm_ie hf c16
    obtain ⟨k17, hf⟩ := pm_if hf
    obtain ⟨v18, e19, hf⟩ := pm_bd hf
    have K20 := rgX1_put K0 Hx0 e19
    exact rgX1_plain_b41 K20 Hx0 hf
set_option maxHeartbeats 4000000 in
set_option maxRecDepth 100000 in
theorem rgX1_plain_b20 {A : Nat → Prop} {h0 h : pm_H} (K0 : pr_F A h0 h) {x0 : Nat} {x1 : Int32} {x2 : Int32} {x3 : Int32} {x4 : Int32} (Hx0 : A x0) {r : pm_H} (hf : fX1_plain_b20 h x0 x1 x2 x3 x4 = some r) : pr_F A h0 r := by
  unfold fX1_plain_b20 at hf
  by_cases c11 : x3 = 0
  · have hf := pm_it hf c11
    exact rgX1_plain_b30 K0 Hx0 hf
  · have hf := pm_ie hf c11
    obtain ⟨k12, hf⟩ := pm_if hf
    obtain ⟨v13, e14, hf⟩ := pm_bd hf
    have K15 := rgX1_take K0 Hx0 e14
    exact rgX1_plain_b30 K15 Hx0 hf
set_option maxHeartbeats 4000000 in
set_option maxRecDepth 100000 in
theorem rgX1_plain_b10 {A : Nat → Prop} {h0 h : pm_H} (K0 : pr_F A h0 h) {x0 : Nat} {x1 : Int32} {x2 : Int32} {x3 : Int32} {x4 : Int32} (Hx0 : A x0) {r : pm_H} (hf : fX1_plain_b10 h x0 x1 x2 x3 x4 = some r) : pr_F A h0 r := by
  unfold fX1_plain_b10 at hf
  by_cases c6 : x2 = 0
  · have hf := pm_it hf c6
    exact rgX1_plain_b20 K0 Hx0 hf
  · have hf := pm_ie hf c6
    obtain ⟨k7, hf⟩ := pm_if hf
    obtain ⟨v8, e9, hf⟩ := pm_bd hf
    have K10 := rgX1_take K0 Hx0 e9
    exact rgX1_plain_b20 K10 Hx0 hf
set_option maxHeartbeats 4000000 in
set_option maxRecDepth 100000 in
theorem rgX1_plain {A : Nat → Prop} {h0 h : pm_H} (K0 : pr_F A h0 h) {a0 : Nat} {p1 : Int32} {p2 : Int32} {p3 : Int32} {p4 : Int32} (Ha0 : A a0) {r : pm_H} (hf : fX1_plain h a0 p1 p2 p3 p4 = some r) : pr_F A h0 r := by
  unfold fX1_plain at hf
  by_cases c1 : p1 = 0
  · have hf := pm_it hf c1
    exact rgX1_plain_b10 K0 Ha0 hf
  · have hf := pm_ie hf c1
    obtain ⟨k2, hf⟩ := pm_if hf
    obtain ⟨v3, e4, hf⟩ := pm_bd hf
    have K5 := rgX1_take K0 Ha0 e4
    exact rgX1_plain_b10 K5 Ha0 hf
set_option maxHeartbeats 4000000 in
set_option maxRecDepth 100000 in
theorem rgX1_putParameters {A : Nat → Prop} {h0 h : pm_H} (K0 : pr_F A h0 h) {a0 : Nat} {p1 : Nat} (Ha0 : A a0) (Hp1 : A p1) {r : pm_H} (hf : fX1_putParameters h a0 p1 = some r) : pr_F A h0 r := by
  unfold fX1_putParameters at hf
  obtain ⟨v1, e2, hf⟩ := pm_bd hf
  obtain ⟨k3, hf⟩ := pm_if hf
  obtain ⟨v4, e5, hf⟩ := pm_bd hf
  have K6 := rgX1_putTypes K0 Ha0 Hp1 e5
  cases hf
  exact K6
set_option maxHeartbeats 4000000 in
set_option maxRecDepth 100000 in
theorem rgX1_putResults {A : Nat → Prop} {h0 h : pm_H} (K0 : pr_F A h0 h) {a0 : Nat} {p1 : Nat} (Ha0 : A a0) (Hp1 : A p1) {r : pm_H} (hf : fX1_putResults h a0 p1 = some r) : pr_F A h0 r := by
  unfold fX1_putResults at hf
  obtain ⟨v1, e2, hf⟩ := pm_bd hf
  obtain ⟨v3, e4, hf⟩ := pm_bd hf
  obtain ⟨k5, hf⟩ := pm_if hf
  obtain ⟨v6, e7, hf⟩ := pm_bd hf
  have K8 := rgX1_putTypes K0 Ha0 Hp1 e7
  cases hf
  exact K8
set_option maxHeartbeats 4000000 in
set_option maxRecDepth 100000 in
theorem rgX1_stretch_b64 {A : Nat → Prop} {h0 h : pm_H} (K0 : pr_F A h0 h) {x0 : Nat} {x1 : Int32} {x2 : Int32} (Hx0 : A x0) {r : pm_H} (hf : fX1_stretch_b64 h x0 x1 x2 = some r) : pr_F A h0 r := by
  unfold fX1_stretch_b64 at hf
  by_cases c22 : x2 = 0
  · have hf := pm_it hf c22
    obtain ⟨k23, hf⟩ := pm_if hf
    obtain ⟨v24, e25, hf⟩ := pm_bd hf
    have K26 := rgX1_fail K0 Hx0 e25
    cases hf
    exact K26
  · have hf := pm_ie hf c22
    by_cases c27 : x1 = 309
    · have hf := pm_it hf c27
      obtain ⟨k28, hf⟩ := pm_if hf
      obtain ⟨v29, e30, hf⟩ := pm_bd hf
      have K31 := rgX1_plain K0 Hx0 e30
      cases hf
      exact K31
    · have hf := pm_ie hf c27
      obtain ⟨k32, hf⟩ := pm_if hf
      obtain ⟨v33, e34, hf⟩ := pm_bd hf
      have K35 := rgX1_plain K0 Hx0 e34
      cases hf
      exact K35
set_option maxHeartbeats 4000000 in
set_option maxRecDepth 100000 in
theorem rgX1_stretch_b63 {A : Nat → Prop} {h0 h : pm_H} (K0 : pr_F A h0 h) {x0 : Nat} {x1 : Int32} {s0 : Int32} (Hx0 : A x0) {r : pm_H} (hf : fX1_stretch_b63 h x0 x1 s0 = some r) : pr_F A h0 r := by
  unfold fX1_stretch_b63 at hf
  exact rgX1_stretch_b64 K0 Hx0 hf
set_option maxHeartbeats 4000000 in
set_option maxRecDepth 100000 in
theorem rgX1_stretch_b62 {A : Nat → Prop} {h0 h : pm_H} (K0 : pr_F A h0 h) {x0 : Nat} {x1 : Int32} (Hx0 : A x0) {r : pm_H} (hf : fX1_stretch_b62 h x0 x1 = some r) : pr_F A h0 r := by
  unfold fX1_stretch_b62 at hf
  exact rgX1_stretch_b63 K0 Hx0 hf
set_option maxHeartbeats 4000000 in
set_option maxRecDepth 100000 in
theorem rgX1_stretch_b23 {A : Nat → Prop} {h0 h : pm_H} (K0 : pr_F A h0 h) {x0 : Nat} {x1 : Int32} {s0 : Int32} (Hx0 : A x0) {r : pm_H} (hf : fX1_stretch_b23 h x0 x1 s0 = some r) : pr_F A h0 r := by
  unfold fX1_stretch_b23 at hf
  by_cases c9 : 309 < x1
  · have hf := pm_it hf c9
    exact rgX1_stretch_b64 K0 Hx0 hf
  · have hf := pm_ie hf c9
    by_cases c10 : s0 = 0
    · have hf := pm_it hf c10
      exact rgX1_stretch_b62 K0 Hx0 hf
    · have hf := pm_ie hf c10
      obtain ⟨k11, hf⟩ := pm_if hf
      obtain ⟨v12, e13, hf⟩ := pm_bd hf
      obtain ⟨k14, hf⟩ := pm_if hf
      obtain ⟨v15, e16, hf⟩ := pm_bd hf
      obtain ⟨k17, hf⟩ := pm_if hf
      obtain ⟨v18, e19, hf⟩ := pm_bd hf
      obtain ⟨k20, hf⟩ := pm_if hf
      by_cases c21 : (((Int32.ofNat (pm_ln h v18)) / 7).toInt64) ≤ (pm_L h v12 8)
      · have hf := pm_it hf c21
        exact rgX1_stretch_b62 K0 Hx0 hf
      · have hf := pm_ie hf c21
        exact rgX1_stretch_b63 K0 Hx0 hf
set_option maxHeartbeats 4000000 in
set_option maxRecDepth 100000 in
theorem rgX1_stretch_b18 {A : Nat → Prop} {h0 h : pm_H} (K0 : pr_F A h0 h) {x0 : Nat} {x1 : Int32} (Hx0 : A x0) {r : pm_H} (hf : fX1_stretch_b18 h x0 x1 = some r) : pr_F A h0 r := by
  unfold fX1_stretch_b18 at hf
  exact rgX1_stretch_b23 K0 Hx0 hf
set_option maxHeartbeats 4000000 in
set_option maxRecDepth 100000 in
theorem rgX1_stretch {A : Nat → Prop} {h0 h : pm_H} (K0 : pr_F A h0 h) {a0 : Nat} {p1 : Int32} (Ha0 : A a0) {r : pm_H} (hf : fX1_stretch h a0 p1 = some r) : pr_F A h0 r := by
  unfold fX1_stretch at hf
  by_cases c1 : p1 = 309
  · have hf := pm_it hf c1
    exact rgX1_stretch_b18 K0 Ha0 hf
  · have hf := pm_ie hf c1
    obtain ⟨k2, hf⟩ := pm_if hf
    obtain ⟨v3, e4, hf⟩ := pm_bd hf
    obtain ⟨k5, hf⟩ := pm_if hf
    obtain ⟨v6, e7, hf⟩ := pm_bd hf
    by_cases c8 : v6 ≤ 0
    · have hf := pm_it hf c8
      exact rgX1_stretch_b23 K0 Ha0 hf
    · have hf := pm_ie hf c8
      exact rgX1_stretch_b18 K0 Ha0 hf
set_option maxHeartbeats 4000000 in
set_option maxRecDepth 100000 in
theorem rgX1_tableAccess_b195 {A : Nat → Prop} {h0 h : pm_H} (K0 : pr_F A h0 h) {x0 : Nat} {x1 : Int32} {x5 : Int32} {x6 : Int32} {s0 : Int32} (Hx0 : A x0) {r : pm_H} (hf : fX1_tableAccess_b195 h x0 x1 x5 x6 s0 = some r) : pr_F A h0 r := by
  unfold fX1_tableAccess_b195 at hf
  by_cases c60 : x5 = 0
  · have hf := pm_it hf c60
    obtain ⟨k61, hf⟩ := pm_if hf
    obtain ⟨v62, e63, hf⟩ := pm_bd hf
    have K64 := rgX1_fail K0 Hx0 e63
    cases hf
    exact K64
  · have hf := pm_ie hf c60
    by_cases c65 : s0 = 0
    · have hf := pm_it hf c65
      obtain ⟨k66, hf⟩ := pm_if hf
      obtain ⟨v67, e68, hf⟩ := pm_bd hf
      have K69 := rgX1_fail K0 Hx0 e68
      cases hf
      exact K69
    · have hf := pm_ie hf c65
      by_cases c70 : x1 = 37
      · have hf := pm_it hf c70
        obtain ⟨k71, hf⟩ := pm_if hf
        obtain ⟨v72, e73, hf⟩ := pm_bd hf
        have K74 := rgX1_plain K0 Hx0 e73
        cases hf
        exact K74
      have hf := pm_ie hf c70
      by_cases c75 : x1 = 38
      · have hf := pm_it hf c75
        obtain ⟨k76, hf⟩ := pm_if hf
        obtain ⟨v77, e78, hf⟩ := pm_bd hf
        have K79 := rgX1_plain K0 Hx0 e78
        cases hf
        exact K79
      have hf := pm_ie hf c75
      by_cases c80 : x1 = 313
      · have hf := pm_it hf c80
        obtain ⟨k81, hf⟩ := pm_if hf
        obtain ⟨v82, e83, hf⟩ := pm_bd hf
        have K84 := rgX1_plain K0 Hx0 e83
        cases hf
        exact K84
      have hf := pm_ie hf c80
      by_cases c85 : x1 = 315
      · have hf := pm_it hf c85
        obtain ⟨k86, hf⟩ := pm_if hf
        obtain ⟨v87, e88, hf⟩ := pm_bd hf
        have K89 := rgX1_plain K0 Hx0 e88
        cases hf
        exact K89
      have hf := pm_ie hf c85
      by_cases c90 : x1 = 316
      · have hf := pm_it hf c90
        obtain ⟨k91, hf⟩ := pm_if hf
        obtain ⟨v92, e93, hf⟩ := pm_bd hf
        have K94 := rgX1_plain K0 Hx0 e93
        cases hf
        exact K94
      have hf := pm_ie hf c90
      by_cases c95 : x1 = 317
      · have hf := pm_it hf c95
        obtain ⟨k96, hf⟩ := pm_if hf
        obtain ⟨v97, e98, hf⟩ := pm_bd hf
        have K99 := rgX1_plain K0 Hx0 e98
        cases hf
        exact K99
      have hf := pm_ie hf c95
      obtain ⟨k100, hf⟩ := pm_if hf
      obtain ⟨v101, e102, hf⟩ := pm_bd hf
      have K103 := rgX1_plain K0 Hx0 e102
      cases hf
      exact K103
set_option maxHeartbeats 4000000 in
set_option maxRecDepth 100000 in
theorem rgX1_tableAccess_b190 {A : Nat → Prop} {h0 h : pm_H} (K0 : pr_F A h0 h) {x0 : Nat} {x1 : Int32} {x5 : Int32} {x6 : Int32} (Hx0 : A x0) {r : pm_H} (hf : fX1_tableAccess_b190 h x0 x1 x5 x6 = some r) : pr_F A h0 r := by
  unfold fX1_tableAccess_b190 at hf
  exact rgX1_tableAccess_b195 K0 Hx0 hf
set_option maxHeartbeats 4000000 in
set_option maxRecDepth 100000 in
theorem rgX1_tableAccess_b173 {A : Nat → Prop} {h0 h : pm_H} (K0 : pr_F A h0 h) {x0 : Nat} {x1 : Int32} {x3 : Int32} {x5 : Int32} {x6 : Int32} (Hx0 : A x0) {r : pm_H} (hf : fX1_tableAccess_b173 h x0 x1 x3 x5 x6 = some r) : pr_F A h0 r := by
  unfold fX1_tableAccess_b173 at hf
  obtain ⟨k53, hf⟩ := pm_if hf
  obtain ⟨v54, e55, hf⟩ := pm_bd hf
  obtain ⟨k56, hf⟩ := pm_if hf
  obtain ⟨v57, e58, hf⟩ := pm_bd hf
  by_cases c59 : v57 = x6.toInt64
  · have hf := pm_it hf c59
    exact rgX1_tableAccess_b190 K0 Hx0 hf
  · have hf := pm_ie hf c59
    exact rgX1_tableAccess_b195 K0 Hx0 hf
set_option maxHeartbeats 4000000 in
set_option maxRecDepth 100000 in
theorem rgX1_tableAccess_b157 {A : Nat → Prop} {h0 h : pm_H} (K0 : pr_F A h0 h) {x0 : Nat} {x1 : Int32} {x3 : Int32} {x5 : Int32} {s0 : Int32} (Hx0 : A x0) {r : pm_H} (hf : fX1_tableAccess_b157 h x0 x1 x3 x5 s0 = some r) : pr_F A h0 r := by
  unfold fX1_tableAccess_b157 at hf
  by_cases c51 : x1 = 312
  · have hf := pm_it hf c51
    exact rgX1_tableAccess_b173 K0 Hx0 hf
  · have hf := pm_ie hf c51
    by_cases c52 : x1 = 314
    · have hf := pm_it hf c52
      exact rgX1_tableAccess_b173 K0 Hx0 hf
    · have hf := pm_ie hf c52
      exact rgX1_tableAccess_b190 K0 Hx0 hf
set_option maxHeartbeats 4000000 in
set_option maxRecDepth 100000 in
theorem rgX1_tableAccess_b122 {A : Nat → Prop} {h0 h : pm_H} (K0 : pr_F A h0 h) {x0 : Nat} {x1 : Int32} {x2 : Int32} {x3 : Int32} {x4 : Int32} {x5 : Int32} (Hx0 : A x0) {r : pm_H} (hf : fX1_tableAccess_b122 h x0 x1 x2 x3 x4 x5 = some r) : pr_F A h0 r := by
  unfold fX1_tableAccess_b122 at hf
  by_cases c36 : x4 = 0
  · have hf := pm_it hf c36
    obtain ⟨k37, hf⟩ := pm_if hf
    obtain ⟨v38, e39, hf⟩ := pm_bd hf
    obtain ⟨k40, hf⟩ := pm_if hf
    obtain ⟨v41, e42, hf⟩ := pm_bd hf
    exact rgX1_tableAccess_b157 K0 Hx0 hf
  · have hf := pm_ie hf c36
    obtain ⟨k43, hf⟩ := pm_if hf
    obtain ⟨v44, e45, hf⟩ := pm_bd hf
    obtain ⟨k46, hf⟩ := pm_if hf
    obtain ⟨v47, e48, hf⟩ := pm_bd hf
    obtain ⟨v49, e50, hf⟩ := pm_bd hf
    exact rgX1_tableAccess_b157 K0 Hx0 hf
set_option maxHeartbeats 4000000 in
set_option maxRecDepth 100000 in
theorem rgX1_tableAccess_b120 {A : Nat → Prop} {h0 h : pm_H} (K0 : pr_F A h0 h) {x0 : Nat} {x1 : Int32} {x2 : Int32} {x3 : Int32} {x4 : Int32} {s0 : Int32} (Hx0 : A x0) {r : pm_H} (hf : fX1_tableAccess_b120 h x0 x1 x2 x3 x4 s0 = some r) : pr_F A h0 r := by
  unfold fX1_tableAccess_b120 at hf
  exact rgX1_tableAccess_b122 K0 Hx0 hf
set_option maxHeartbeats 4000000 in
set_option maxRecDepth 100000 in
theorem rgX1_tableAccess_b119 {A : Nat → Prop} {h0 h : pm_H} (K0 : pr_F A h0 h) {x0 : Nat} {x1 : Int32} {x2 : Int32} {x3 : Int32} {x4 : Int32} (Hx0 : A x0) {r : pm_H} (hf : fX1_tableAccess_b119 h x0 x1 x2 x3 x4 = some r) : pr_F A h0 r := by
  unfold fX1_tableAccess_b119 at hf
  exact rgX1_tableAccess_b120 K0 Hx0 hf
set_option maxHeartbeats 4000000 in
set_option maxRecDepth 100000 in
theorem rgX1_tableAccess_b97 {A : Nat → Prop} {h0 h : pm_H} (K0 : pr_F A h0 h) {x0 : Nat} {x1 : Int32} {x2 : Int32} {x3 : Int32} {x4 : Int32} {x5 : Int32} (Hx0 : A x0) {r : pm_H} (hf : fX1_tableAccess_b97 h x0 x1 x2 x3 x4 x5 = some r) : pr_F A h0 r := by
  unfold fX1_tableAccess_b97 at hf
  by_cases c28 : x5 = 0
  · have hf := pm_it hf c28
    exact rgX1_tableAccess_b119 K0 Hx0 hf
  · have hf := pm_ie hf c28
    obtain ⟨k29, hf⟩ := pm_if hf
    obtain ⟨v30, e31, hf⟩ := pm_bd hf
    obtain ⟨k32, hf⟩ := pm_if hf
    obtain ⟨v33, e34, hf⟩ := pm_bd hf
    by_cases c35 : v33 = 0
    · have hf := pm_it hf c35
      exact rgX1_tableAccess_b119 K0 Hx0 hf
    · have hf := pm_ie hf c35
      exact rgX1_tableAccess_b120 K0 Hx0 hf
set_option maxHeartbeats 4000000 in
set_option maxRecDepth 100000 in
theorem rgX1_tableAccess_b81 {A : Nat → Prop} {h0 h : pm_H} (K0 : pr_F A h0 h) {x0 : Nat} {x1 : Int32} {x2 : Int32} {x3 : Int32} {x4 : Int32} {s0 : Int32} (Hx0 : A x0) {r : pm_H} (hf : fX1_tableAccess_b81 h x0 x1 x2 x3 x4 s0 = some r) : pr_F A h0 r := by
  unfold fX1_tableAccess_b81 at hf
  by_cases c26 : x1 = 312
  · have hf := pm_it hf c26
    exact rgX1_tableAccess_b97 K0 Hx0 hf
  · have hf := pm_ie hf c26
    by_cases c27 : x1 = 314
    · have hf := pm_it hf c27
      exact rgX1_tableAccess_b97 K0 Hx0 hf
    · have hf := pm_ie hf c27
      exact rgX1_tableAccess_b122 K0 Hx0 hf
set_option maxHeartbeats 4000000 in
set_option maxRecDepth 100000 in
theorem rgX1_tableAccess_b41 {A : Nat → Prop} {h0 h : pm_H} (K0 : pr_F A h0 h) {x0 : Nat} {x1 : Int32} {x2 : Int32} {x3 : Int32} {s0 : Int32} (Hx0 : A x0) {r : pm_H} (hf : fX1_tableAccess_b41 h x0 x1 x2 x3 s0 = some r) : pr_F A h0 r := by
  unfold fX1_tableAccess_b41 at hf
  by_cases c11 : s0 = 0
  · have hf := pm_it hf c11
    obtain ⟨k12, hf⟩ := pm_if hf
    obtain ⟨v13, e14, hf⟩ := pm_bd hf
    obtain ⟨k15, hf⟩ := pm_if hf
    obtain ⟨v16, e17, hf⟩ := pm_bd hf
    exact rgX1_tableAccess_b81 K0 Hx0 hf
  · have hf := pm_ie hf c11
    obtain ⟨k18, hf⟩ := pm_if hf
    obtain ⟨v19, e20, hf⟩ := pm_bd hf
    obtain ⟨k21, hf⟩ := pm_if hf
    obtain ⟨v22, e23, hf⟩ := pm_bd hf
    obtain ⟨k24, hf⟩ := pm_if hf
    by_cases c25 : ((Int32.ofNat (pm_ln h v22)) / 7) ≤ x2
    · have hf := pm_it hf c25
      exact rgX1_tableAccess_b81 K0 Hx0 hf
    · have hf := pm_ie hf c25
      exact rgX1_tableAccess_b81 K0 Hx0 hf
set_option maxHeartbeats 4000000 in
set_option maxRecDepth 100000 in
theorem rgX1_tableAccess_b36 {A : Nat → Prop} {h0 h : pm_H} (K0 : pr_F A h0 h) {x0 : Nat} {x1 : Int32} {x2 : Int32} {x3 : Int32} (Hx0 : A x0) {r : pm_H} (hf : fX1_tableAccess_b36 h x0 x1 x2 x3 = some r) : pr_F A h0 r := by
  unfold fX1_tableAccess_b36 at hf
  exact rgX1_tableAccess_b41 K0 Hx0 hf
set_option maxHeartbeats 4000000 in
set_option maxRecDepth 100000 in
theorem rgX1_tableAccess {A : Nat → Prop} {h0 h : pm_H} (K0 : pr_F A h0 h) {a0 : Nat} {p1 : Int32} (Ha0 : A a0) {r : pm_H} (hf : fX1_tableAccess h a0 p1 = some r) : pr_F A h0 r := by
  unfold fX1_tableAccess at hf
  obtain ⟨k1, hf⟩ := pm_if hf
  obtain ⟨v2, e3, hf⟩ := pm_bd hf
  obtain ⟨k4, hf⟩ := pm_if hf
  obtain ⟨v5, e6, hf⟩ := pm_lt hf
  obtain ⟨v7, e8, hf⟩ := pm_lt hf
  by_cases c9 : p1 = 312
  · have hf := pm_it hf c9
    exact rgX1_tableAccess_b36 K0 Ha0 hf
  · have hf := pm_ie hf c9
    by_cases c10 : p1 = 313
    · have hf := pm_it hf c10
      exact rgX1_tableAccess_b36 K0 Ha0 hf
    · have hf := pm_ie hf c10
      exact rgX1_tableAccess_b41 K0 Ha0 hf
set_option maxHeartbeats 4000000 in
set_option maxRecDepth 100000 in
theorem rgX1_takeParameters {A : Nat → Prop} {h0 h : pm_H} (K0 : pr_F A h0 h) {a0 : Nat} {p1 : Nat} (Ha0 : A a0) (Hp1 : A p1) {r : pm_H} (hf : fX1_takeParameters h a0 p1 = some r) : pr_F A h0 r := by
  unfold fX1_takeParameters at hf
  obtain ⟨v1, e2, hf⟩ := pm_bd hf
  obtain ⟨k3, hf⟩ := pm_if hf
  obtain ⟨v4, e5, hf⟩ := pm_bd hf
  have K6 := rgX1_takeTypes K0 Ha0 Hp1 e5
  cases hf
  exact K6
set_option maxHeartbeats 4000000 in
set_option maxRecDepth 100000 in
theorem rlX1_typesAreThere {A : Nat → Prop} {h0 : pm_H} {r : pm_H} : ∀ n : Nat, (∀ (x0 : Nat) (x1 : Int32) (x2 : Int32) (h : pm_H), pr_F A h0 h → A x0 → pm_iter sX1_typesAreThere n (.inl (x0, x1, x2, h)) = some r → pr_F A h0 r) ∧ (∀ (x0 : Nat) (x2 : Int32) (h : pm_H), pr_F A h0 h → A x0 → pm_iter sX1_typesAreThere n (.inr (x0, x2, h)) = some r → pr_F A h0 r) := by
  intro n
  induction n with
  | zero => exact ⟨fun _ _ _ _ _ _ hf => (by cases hf), fun _ _ _ _ _ hf => (by cases hf)⟩
  | succ n ih =>
    refine ⟨fun x0 x1 x2 h K0 Hx0 hf => ?_, ?_⟩
    · obtain ⟨y, hf, hi⟩ := pm_iter_s hf
      have hf : tX1_typesAreThere_4 x0 x1 x2 h = some y := hf
      unfold tX1_typesAreThere_4 at hf
      obtain ⟨k1, hf⟩ := pm_if hf
      obtain ⟨v2, e3, hf⟩ := pm_bd hf
      obtain ⟨k4, hf⟩ := pm_if hf
      obtain ⟨v5, e6, hf⟩ := pm_bd hf
      obtain ⟨k7, hf⟩ := pm_if hf
      by_cases c8 : (Int32.ofNat (pm_ln h v5)) ≤ x2
      · have hf := pm_it hf c8
        cases hf
        exact ih.2 x0 x1 h K0 Hx0 hi
      · have hf := pm_ie hf c8
        obtain ⟨v9, e10, hf⟩ := pm_bd hf
        by_cases c11 : v9 = 0
        · have hf := pm_it hf c11
          obtain ⟨y12, e13, hf⟩ := pm_lt hf
          obtain ⟨v14, e15, hf⟩ := pm_bd hf
          obtain ⟨v16, e17, hf⟩ := pm_bd hf
          obtain ⟨k18, hf⟩ := pm_if hf
          by_cases c19 : v14 < ((Int32.ofNat (pm_ln h v16)).toInt64)
          · have hf := pm_it hf c19
            obtain ⟨y20, e21, hf⟩ := pm_lt hf
            cases hf
            exact ih.1 x0 y12 y20 h K0 Hx0 hi
          · have hf := pm_ie hf c19
            obtain ⟨v22, e23, hf⟩ := pm_bd hf
            have K24 := rgX1_failSection K0 Hx0 e23
            obtain ⟨y25, e26, hf⟩ := pm_lt hf
            cases hf
            exact ih.1 x0 y12 y25 v22 K24 Hx0 hi
        · have hf := pm_ie hf c11
          obtain ⟨y27, e28, hf⟩ := pm_lt hf
          cases hf
          exact ih.1 x0 x1 y27 h K0 Hx0 hi
    refine fun x0 x2 h K0 Hx0 hf => ?_
    obtain ⟨y, hf, hi⟩ := pm_iter_s hf
    have hf : tX1_typesAreThere_81 x0 x2 h = some y := hf
    unfold tX1_typesAreThere_81 at hf
    obtain ⟨k29, hf⟩ := pm_if hf
    obtain ⟨v30, e31, hf⟩ := pm_bd hf
    obtain ⟨k32, hf⟩ := pm_if hf
    obtain ⟨v33, e34, hf⟩ := pm_bd hf
    by_cases c35 : v33 ≤ x2
    · have hf := pm_it hf c35
      cases hf
      cases hi
      exact K0
    · have hf := pm_ie hf c35
      obtain ⟨v36, e37, hf⟩ := pm_bd hf
      obtain ⟨v38, e39, hf⟩ := pm_bd hf
      obtain ⟨k40, hf⟩ := pm_if hf
      by_cases c41 : v36 < ((Int32.ofNat (pm_ln h v38)).toInt64)
      · have hf := pm_it hf c41
        obtain ⟨y42, e43, hf⟩ := pm_lt hf
        cases hf
        exact ih.2 x0 y42 h K0 Hx0 hi
      · have hf := pm_ie hf c41
        obtain ⟨v44, e45, hf⟩ := pm_bd hf
        have K46 := rgX1_failSection K0 Hx0 e45
        obtain ⟨y47, e48, hf⟩ := pm_lt hf
        cases hf
        exact ih.2 x0 y47 v44 K46 Hx0 hi
set_option maxHeartbeats 4000000 in
set_option maxRecDepth 100000 in
theorem rgX1_typesAreThere {A : Nat → Prop} {h0 h : pm_H} (K0 : pr_F A h0 h) {a0 : Nat} (Ha0 : A a0) {r : pm_H} (hf : fX1_typesAreThere h a0 = some r) : pr_F A h0 r := by
  unfold fX1_typesAreThere at hf
  obtain ⟨n, hn⟩ := pm_lim_iter hf
  exact (rlX1_typesAreThere n).1 a0 0 0 h K0 Ha0 hn
set_option maxHeartbeats 4000000 in
set_option maxRecDepth 100000 in
theorem rgX1_variable_b189 {A : Nat → Prop} {h0 h : pm_H} (K0 : pr_F A h0 h) {x0 : Nat} {x1 : Int32} (Hx0 : A x0) {r : pm_H} (hf : fX1_variable_b189 h x0 x1 = some r) : pr_F A h0 r := by
  unfold fX1_variable_b189 at hf
  by_cases c81 : x1 = 32
  · have hf := pm_it hf c81
    obtain ⟨k82, hf⟩ := pm_if hf
    obtain ⟨v83, e84, hf⟩ := pm_bd hf
    have K85 := rgX1_emitPlain K0 Hx0 e84
    cases hf
    exact K85
  · have hf := pm_ie hf c81
    by_cases c86 : x1 = 34
    · have hf := pm_it hf c86
      obtain ⟨k87, hf⟩ := pm_if hf
      obtain ⟨v88, e89, hf⟩ := pm_bd hf
      have K90 := rgX1_emitPlain K0 Hx0 e89
      cases hf
      exact K90
    · have hf := pm_ie hf c86
      by_cases c91 : x1 = 35
      · have hf := pm_it hf c91
        obtain ⟨k92, hf⟩ := pm_if hf
        obtain ⟨v93, e94, hf⟩ := pm_bd hf
        have K95 := rgX1_emitPlain K0 Hx0 e94
        cases hf
        exact K95
      · have hf := pm_ie hf c91
        obtain ⟨k96, hf⟩ := pm_if hf
        obtain ⟨v97, e98, hf⟩ := pm_bd hf
        have K99 := rgX1_emitPlain K0 Hx0 e98
        cases hf
        exact K99
set_option maxHeartbeats 4000000 in
set_option maxRecDepth 100000 in
theorem rgX1_variable_b171 {A : Nat → Prop} {h0 h : pm_H} (K0 : pr_F A h0 h) {x0 : Nat} {x1 : Int32} (Hx0 : A x0) {r : pm_H} (hf : fX1_variable_b171 h x0 x1 = some r) : pr_F A h0 r := by
  unfold fX1_variable_b171 at hf
  by_cases c59 : x1 = 33
  · have hf := pm_it hf c59
    exact rgX1_variable_b189 K0 Hx0 hf
  · have hf := pm_ie hf c59
    by_cases c60 : x1 = 34
    · have hf := pm_it hf c60
      exact rgX1_variable_b189 K0 Hx0 hf
    · have hf := pm_ie hf c60
      by_cases c61 : x1 = 36
      · have hf := pm_it hf c61
        exact rgX1_variable_b189 K0 Hx0 hf
      · have hf := pm_ie hf c61
        by_cases c62 : x1 = 32
        · have hf := pm_it hf c62
          obtain ⟨k63, hf⟩ := pm_if hf
          obtain ⟨v64, e65, hf⟩ := pm_bd hf
          have K66 := rgX1_emitPlain K0 Hx0 e65
          cases hf
          exact K66
        · have hf := pm_ie hf c62
          by_cases c67 : x1 = 34
          · have hf := pm_it hf c67
            obtain ⟨k68, hf⟩ := pm_if hf
            obtain ⟨v69, e70, hf⟩ := pm_bd hf
            have K71 := rgX1_emitPlain K0 Hx0 e70
            cases hf
            exact K71
          · have hf := pm_ie hf c67
            by_cases c72 : x1 = 35
            · have hf := pm_it hf c72
              obtain ⟨k73, hf⟩ := pm_if hf
              obtain ⟨v74, e75, hf⟩ := pm_bd hf
              have K76 := rgX1_emitPlain K0 Hx0 e75
              cases hf
              exact K76
            · have hf := pm_ie hf c72
              obtain ⟨k77, hf⟩ := pm_if hf
              obtain ⟨v78, e79, hf⟩ := pm_bd hf
              have K80 := rgX1_emitPlain K0 Hx0 e79
              cases hf
              exact K80
set_option maxHeartbeats 4000000 in
set_option maxRecDepth 100000 in
theorem rgX1_variable_b165 {A : Nat → Prop} {h0 h : pm_H} (K0 : pr_F A h0 h) {x0 : Nat} {x1 : Int32} {x5 : Int32} (Hx0 : A x0) {r : pm_H} (hf : fX1_variable_b165 h x0 x1 x5 = some r) : pr_F A h0 r := by
  unfold fX1_variable_b165 at hf
  obtain ⟨k55, hf⟩ := pm_if hf
  obtain ⟨v56, e57, hf⟩ := pm_bd hf
  have K58 := rgX1_put K0 Hx0 e57
  exact rgX1_variable_b171 K58 Hx0 hf
set_option maxHeartbeats 4000000 in
set_option maxRecDepth 100000 in
theorem rgX1_variable_b147 {A : Nat → Prop} {h0 h : pm_H} (K0 : pr_F A h0 h) {x0 : Nat} {x1 : Int32} {x5 : Int32} (Hx0 : A x0) {r : pm_H} (hf : fX1_variable_b147 h x0 x1 x5 = some r) : pr_F A h0 r := by
  unfold fX1_variable_b147 at hf
  by_cases c52 : x1 = 32
  · have hf := pm_it hf c52
    exact rgX1_variable_b165 K0 Hx0 hf
  · have hf := pm_ie hf c52
    by_cases c53 : x1 = 34
    · have hf := pm_it hf c53
      exact rgX1_variable_b165 K0 Hx0 hf
    · have hf := pm_ie hf c53
      by_cases c54 : x1 = 35
      · have hf := pm_it hf c54
        exact rgX1_variable_b165 K0 Hx0 hf
      · have hf := pm_ie hf c54
        exact rgX1_variable_b171 K0 Hx0 hf
set_option maxHeartbeats 4000000 in
set_option maxRecDepth 100000 in
theorem rgX1_variable_b140 {A : Nat → Prop} {h0 h : pm_H} (K0 : pr_F A h0 h) {x0 : Nat} {x1 : Int32} {x5 : Int32} (Hx0 : A x0) {r : pm_H} (hf : fX1_variable_b140 h x0 x1 x5 = some r) : pr_F A h0 r := by
  unfold fX1_variable_b140 at hf
  obtain ⟨k48, hf⟩ := pm_if hf
  obtain ⟨v49, e50, hf⟩ := pm_bd hf
  have K51 := rgX1_take K0 Hx0 e50
  exact rgX1_variable_b147 K51 Hx0 hf
set_option maxHeartbeats 4000000 in
set_option maxRecDepth 100000 in
theorem rgX1_variable_b120 {A : Nat → Prop} {h0 h : pm_H} (K0 : pr_F A h0 h) {x0 : Nat} {x1 : Int32} {s0 : Int32} (Hx0 : A x0) {r : pm_H} (hf : fX1_variable_b120 h x0 x1 s0 = some r) : pr_F A h0 r := by
  unfold fX1_variable_b120 at hf
  by_cases c45 : x1 = 33
  · have hf := pm_it hf c45
    exact rgX1_variable_b140 K0 Hx0 hf
  · have hf := pm_ie hf c45
    by_cases c46 : x1 = 34
    · have hf := pm_it hf c46
      exact rgX1_variable_b140 K0 Hx0 hf
    · have hf := pm_ie hf c46
      by_cases c47 : x1 = 36
      · have hf := pm_it hf c47
        exact rgX1_variable_b140 K0 Hx0 hf
      · have hf := pm_ie hf c47
        exact rgX1_variable_b147 K0 Hx0 hf
set_option maxHeartbeats 4000000 in
set_option maxRecDepth 100000 in
theorem rgX1_variable_b74 {A : Nat → Prop} {h0 h : pm_H} (K0 : pr_F A h0 h) {x0 : Nat} {x1 : Int32} {x2 : Int32} {x3 : Int32} {s0 : Int32} (Hx0 : A x0) {r : pm_H} (hf : fX1_variable_b74 h x0 x1 x2 x3 s0 = some r) : pr_F A h0 r := by
  unfold fX1_variable_b74 at hf
  by_cases c23 : x3 = 0
  · have hf := pm_it hf c23
    obtain ⟨k24, hf⟩ := pm_if hf
    obtain ⟨v25, e26, hf⟩ := pm_bd hf
    have K27 := rgX1_fail K0 Hx0 e26
    cases hf
    exact K27
  · have hf := pm_ie hf c23
    by_cases c28 : s0 = 0
    · have hf := pm_it hf c28
      by_cases c29 : 34 < x1
      · have hf := pm_it hf c29
        obtain ⟨k30, hf⟩ := pm_if hf
        obtain ⟨v31, e32, hf⟩ := pm_bd hf
        obtain ⟨k33, hf⟩ := pm_if hf
        obtain ⟨v34, e35, hf⟩ := pm_bd hf
        exact rgX1_variable_b120 K0 Hx0 hf
      · have hf := pm_ie hf c29
        obtain ⟨k36, hf⟩ := pm_if hf
        obtain ⟨v37, e38, hf⟩ := pm_bd hf
        obtain ⟨v39, e40, hf⟩ := pm_bd hf
        exact rgX1_variable_b120 K0 Hx0 hf
    · have hf := pm_ie hf c28
      obtain ⟨k41, hf⟩ := pm_if hf
      obtain ⟨v42, e43, hf⟩ := pm_bd hf
      have K44 := rgX1_fail K0 Hx0 e43
      cases hf
      exact K44
set_option maxHeartbeats 4000000 in
set_option maxRecDepth 100000 in
theorem rgX1_variable_b73 {A : Nat → Prop} {h0 h : pm_H} (K0 : pr_F A h0 h) {x0 : Nat} {x1 : Int32} {x2 : Int32} {x3 : Int32} (Hx0 : A x0) {r : pm_H} (hf : fX1_variable_b73 h x0 x1 x2 x3 = some r) : pr_F A h0 r := by
  unfold fX1_variable_b73 at hf
  exact rgX1_variable_b74 K0 Hx0 hf
set_option maxHeartbeats 4000000 in
set_option maxRecDepth 100000 in
theorem rgX1_variable_b43 {A : Nat → Prop} {h0 h : pm_H} (K0 : pr_F A h0 h) {x0 : Nat} {x1 : Int32} {x2 : Int32} {s0 : Int32} (Hx0 : A x0) {r : pm_H} (hf : fX1_variable_b43 h x0 x1 x2 s0 = some r) : pr_F A h0 r := by
  unfold fX1_variable_b43 at hf
  by_cases c14 : x1 = 36
  · have hf := pm_it hf c14
    by_cases c15 : s0 = 0
    · have hf := pm_it hf c15
      exact rgX1_variable_b73 K0 Hx0 hf
    · have hf := pm_ie hf c15
      obtain ⟨k16, hf⟩ := pm_if hf
      obtain ⟨v17, e18, hf⟩ := pm_bd hf
      obtain ⟨k19, hf⟩ := pm_if hf
      obtain ⟨v20, e21, hf⟩ := pm_bd hf
      by_cases c22 : v20 = 0
      · have hf := pm_it hf c22
        exact rgX1_variable_b74 K0 Hx0 hf
      · have hf := pm_ie hf c22
        exact rgX1_variable_b73 K0 Hx0 hf
  · have hf := pm_ie hf c14
    exact rgX1_variable_b73 K0 Hx0 hf
set_option maxHeartbeats 4000000 in
set_option maxRecDepth 100000 in
theorem rgX1_variable {A : Nat → Prop} {h0 h : pm_H} (K0 : pr_F A h0 h) {a0 : Nat} {p1 : Int32} (Ha0 : A a0) {r : pm_H} (hf : fX1_variable h a0 p1 = some r) : pr_F A h0 r := by
  unfold fX1_variable at hf
  obtain ⟨k1, hf⟩ := pm_if hf
  obtain ⟨v2, e3, hf⟩ := pm_bd hf
  obtain ⟨k4, hf⟩ := pm_if hf
  obtain ⟨v5, e6, hf⟩ := pm_lt hf
  by_cases c7 : 34 < p1
  · have hf := pm_it hf c7
    obtain ⟨v8, e9, hf⟩ := pm_bd hf
    obtain ⟨k10, hf⟩ := pm_if hf
    obtain ⟨v11, e12, hf⟩ := pm_bd hf
    exact rgX1_variable_b43 K0 Ha0 hf
  · have hf := pm_ie hf c7
    by_cases c13 : (pm_I h a0 12) ≤ v5
    · have hf := pm_it hf c13
      exact rgX1_variable_b43 K0 Ha0 hf
    · have hf := pm_ie hf c13
      exact rgX1_variable_b43 K0 Ha0 hf
set_option maxHeartbeats 4000000 in
set_option maxRecDepth 100000 in
theorem rlX2_branchByTable {A : Nat → Prop} {h0 : pm_H} {r : pm_H} : ∀ n : Nat, (∀ (x0 : Nat) (x1 : Int32) (x2 : Int32) (x3 : Int32) (x5 : Int32) (h : pm_H), pr_F A h0 h → A x0 → pm_iter sX2_branchByTable n (x0, x1, x2, x3, x5, h) = some r → pr_F A h0 r) := by
  intro n
  induction n with
  | zero => exact fun _ _ _ _ _ _ _ _ hf => (by cases hf)
  | succ n ih =>
    refine fun x0 x1 x2 x3 x5 h K0 Hx0 hf => ?_
    obtain ⟨y, hf, hi⟩ := pm_iter_s hf
    have hf : tX2_branchByTable_43 x0 x1 x2 x3 x5 h = some y := hf
    unfold tX2_branchByTable_43 at hf
    by_cases c19 : x2 < x5
    · have hf := pm_it hf c19
      obtain ⟨k20, hf⟩ := pm_if hf
      cases hf
      cases hi
      exact (pr_sI K0 Hx0)
    · have hf := pm_ie hf c19
      obtain ⟨k21, hf⟩ := pm_if hf
      obtain ⟨v22, e23, hf⟩ := pm_bd hf
      have K24 := rgX2_branch K0 Hx0 e23
      obtain ⟨y25, e26, hf⟩ := pm_lt hf
      cases hf
      exact ih x0 x1 x2 x3 y25 v22.2 K24 Hx0 hi
set_option maxHeartbeats 4000000 in
set_option maxRecDepth 100000 in
theorem rgX2_branchByTable {A : Nat → Prop} {h0 h : pm_H} (K0 : pr_F A h0 h) {a0 : Nat} {p1 : Int32} {p2 : Int32} {p3 : Int32} (Ha0 : A a0) {r : pm_H} (hf : fX2_branchByTable h a0 p1 p2 p3 = some r) : pr_F A h0 r := by
  unfold fX2_branchByTable at hf
  obtain ⟨k1, hf⟩ := pm_if hf
  obtain ⟨v2, e3, hf⟩ := pm_bd hf
  have K4 := rgX2_emit K0 Ha0 e3
  obtain ⟨k5, hf⟩ := pm_if hf
  obtain ⟨v6, e7, hf⟩ := pm_bd hf
  obtain ⟨v8, e9, hf⟩ := pm_bd hf
  obtain ⟨v10, e11, hf⟩ := pm_bd hf
  have K12 := rgX12_setItem K4 (pr_c K4 Ha0 e7) e11
  obtain ⟨k13, hf⟩ := pm_if hf
  obtain ⟨v14, e15, hf⟩ := pm_bd hf
  obtain ⟨v16, e17, hf⟩ := pm_bd hf
  have K18 := rgX12_setItem K12 (pr_c K12 Ha0 e15) e17
  obtain ⟨n, hn⟩ := pm_lim_iter hf
  exact (rlX2_branchByTable n) a0 p1 p2 p3 0 v16 K18 Ha0 hn
set_option maxHeartbeats 4000000 in
set_option maxRecDepth 100000 in
theorem rlX2_calling {A : Nat → Prop} {h0 : pm_H} {r : pm_H} : ∀ n : Nat, (∀ (x0 : Nat) (x1 : Int32) (x2 : Int32) (x3 : Int32) (s0 : Int32) (h : pm_H), pr_F A h0 h → A x0 → pm_iter sX2_calling n (.inl (x0, x1, x2, x3, s0, h)) = some r → pr_F A h0 r) ∧ (∀ (x0 : Nat) (x7 : Int32) (x8 : Int32) (h : pm_H), pr_F A h0 h → A x0 → pm_iter sX2_calling n (.inr (x0, x7, x8, h)) = some r → pr_F A h0 r) := by
  intro n
  induction n with
  | zero => exact ⟨fun _ _ _ _ _ _ _ _ hf => (by cases hf), fun _ _ _ _ _ _ hf => (by cases hf)⟩
  | succ n ih =>
    refine ⟨fun x0 x1 x2 x3 s0 h K0 Hx0 hf => ?_, ?_⟩
    · obtain ⟨y, hf, hi⟩ := pm_iter_s hf
      have hf : tX2_calling_13 x0 x1 x2 x3 s0 h = some y := hf
      unfold tX2_calling_13 at hf
      obtain ⟨k2, hf⟩ := pm_if hf
      obtain ⟨v3, e4, hf⟩ := pm_bd hf
      obtain ⟨k5, hf⟩ := pm_if hf
      obtain ⟨v6, e7, hf⟩ := pm_bd hf
      obtain ⟨y8, e9, hf⟩ := pm_lt hf
      obtain ⟨v10, e11, hf⟩ := pm_bd hf
      have K12 := rgX2_emit K0 Hx0 e11
      obtain ⟨k13, hf⟩ := pm_if hf
      obtain ⟨v14, e15, hf⟩ := pm_bd hf
      obtain ⟨v16, e17, hf⟩ := pm_bd hf
      have K18 := rgX12_setItem K12 (pr_c K12 Hx0 e15) e17
      obtain ⟨k19, hf⟩ := pm_if hf
      obtain ⟨v20, e21, hf⟩ := pm_bd hf
      obtain ⟨v22, e23, hf⟩ := pm_bd hf
      obtain ⟨v24, e25, hf⟩ := pm_bd hf
      have K26 := rgX12_setItem K18 (pr_c K18 Hx0 e21) e25
      obtain ⟨k27, hf⟩ := pm_if hf
      obtain ⟨v28, e29, hf⟩ := pm_bd hf
      obtain ⟨v30, e31, hf⟩ := pm_bd hf
      obtain ⟨k32, hf⟩ := pm_if hf
      obtain ⟨v33, e34, hf⟩ := pm_bd hf
      obtain ⟨v35, e36, hf⟩ := pm_bd hf
      have K37 := rgX12_setItem K26 (pr_c K26 Hx0 e29) e36
      obtain ⟨k38, hf⟩ := pm_if hf
      obtain ⟨v39, e40, hf⟩ := pm_bd hf
      obtain ⟨v41, e42, hf⟩ := pm_bd hf
      obtain ⟨k43, hf⟩ := pm_if hf
      obtain ⟨v44, e45, hf⟩ := pm_bd hf
      obtain ⟨v46, e47, hf⟩ := pm_bd hf
      have K48 := rgX12_setItem K37 (pr_c K37 Hx0 e40) e47
      obtain ⟨k49, hf⟩ := pm_if hf
      obtain ⟨v50, e51, hf⟩ := pm_bd hf
      obtain ⟨k52, hf⟩ := pm_if hf
      obtain ⟨v53, e54, hf⟩ := pm_bd hf
      cases hf
      exact ih.2 x0 v53 y8 v46 K48 Hx0 hi
    refine fun x0 x7 x8 h K0 Hx0 hf => ?_
    obtain ⟨y, hf, hi⟩ := pm_iter_s hf
    have hf : tX2_calling_132 x0 x7 x8 h = some y := hf
    unfold tX2_calling_132 at hf
    by_cases c55 : x7 ≤ x8
    · have hf := pm_it hf c55
      cases hf
      cases hi
      exact K0
    · have hf := pm_ie hf c55
      obtain ⟨k56, hf⟩ := pm_if hf
      obtain ⟨v57, e58, hf⟩ := pm_bd hf
      obtain ⟨v59, e60, hf⟩ := pm_bd hf
      have K61 := rgX12_setItem K0 (pr_c K0 Hx0 e58) e60
      obtain ⟨y62, e63, hf⟩ := pm_lt hf
      cases hf
      exact ih.2 x0 x7 y62 v59 K61 Hx0 hi
set_option maxHeartbeats 4000000 in
set_option maxRecDepth 100000 in
theorem rgX2_calling {A : Nat → Prop} {h0 h : pm_H} (K0 : pr_F A h0 h) {a0 : Nat} {p1 : Int32} {p2 : Int32} {p3 : Int32} (Ha0 : A a0) {r : pm_H} (hf : fX2_calling h a0 p1 p2 p3 = some r) : pr_F A h0 r := by
  unfold fX2_calling at hf
  by_cases c1 : p2 = 17
  · have hf := pm_it hf c1
    obtain ⟨n, hn⟩ := pm_lim_iter hf
    exact (rlX2_calling n).1 a0 p1 p2 p3 (p3 - 1) h K0 Ha0 hn
  · have hf := pm_ie hf c1
    obtain ⟨n, hn⟩ := pm_lim_iter hf
    exact (rlX2_calling n).1 a0 p1 p2 p3 p3 h K0 Ha0 hn
set_option maxHeartbeats 4000000 in
set_option maxRecDepth 100000 in
theorem rgX2_condition {A : Nat → Prop} {h0 h : pm_H} (K0 : pr_F A h0 h) {a0 : Nat} {p1 : Int32} {p2 : Int32} (Ha0 : A a0) {r : pm_H} (hf : fX2_condition h a0 p1 p2 = some r) : pr_F A h0 r := by
  unfold fX2_condition at hf
  obtain ⟨k1, hf⟩ := pm_if hf
  obtain ⟨v2, e3, hf⟩ := pm_bd hf
  have K4 := rgX2_emit K0 Ha0 e3
  obtain ⟨k5, hf⟩ := pm_if hf
  obtain ⟨v6, e7, hf⟩ := pm_bd hf
  obtain ⟨v8, e9, hf⟩ := pm_bd hf
  obtain ⟨v10, e11, hf⟩ := pm_bd hf
  have K12 := rgX12_setItem K4 (pr_c K4 Ha0 e7) e11
  obtain ⟨k13, hf⟩ := pm_if hf
  obtain ⟨v14, e15, hf⟩ := pm_bd hf
  obtain ⟨v16, e17, hf⟩ := pm_bd hf
  have K18 := rgX12_setItem K12 (pr_c K12 Ha0 e15) e17
  cases hf
  exact K18
set_option maxHeartbeats 4000000 in
set_option maxRecDepth 100000 in
theorem rgX2_translate_b85 {A : Nat → Prop} {h0 h : pm_H} (K0 : pr_F A h0 h) {x0 : Nat} {x1 : Int32} {x2 : Int32} {x3 : Int32} {x4 : Int32} (Hx0 : A x0) {r : (Int32 × pm_H)} (hf : fX2_translate_b85 h x0 x1 x2 x3 x4 = some r) : pr_F A h0 r.2 := by
  unfold fX2_translate_b85 at hf
  obtain ⟨k29, hf⟩ := pm_if hf
  obtain ⟨v30, e31, hf⟩ := pm_bd hf
  obtain ⟨v32, e33, hf⟩ := pm_bd hf
  have K34 := rgX12_setItem K0 (pr_c K0 Hx0 e31) e33
  obtain ⟨v35, e36, hf⟩ := pm_lt hf
  obtain ⟨k37, hf⟩ := pm_if hf
  obtain ⟨v38, e39, hf⟩ := pm_bd hf
  have K40 := rgX2_own K34 Hx0 e39
  by_cases c41 : x2 = 1
  · have hf := pm_it hf c41
    obtain ⟨k42, hf⟩ := pm_if hf
    obtain ⟨y43, e44, hf⟩ := pm_lt hf
    cases hf
    exact (pr_sI K40 Hx0)
  have hf := pm_ie hf c41
  by_cases c45 : x2 = 4
  · have hf := pm_it hf c45
    obtain ⟨k46, hf⟩ := pm_if hf
    obtain ⟨v47, e48, hf⟩ := pm_bd hf
    have K49 := rgX2_condition K40 Hx0 e48
    cases hf
    exact K49
  have hf := pm_ie hf c45
  by_cases c50 : x2 = 5
  · have hf := pm_it hf c50
    obtain ⟨k51, hf⟩ := pm_if hf
    obtain ⟨v52, e53, hf⟩ := pm_bd hf
    obtain ⟨v54, e55, hf⟩ := pm_bd hf
    have K56 := rgX2_emit K40 Hx0 e55
    obtain ⟨v57, e58, hf⟩ := pm_bd hf
    have K59 := rgX12_setItem K56 (pr_c K40 Hx0 e53) e58
    obtain ⟨k60, hf⟩ := pm_if hf
    cases hf
    exact (pr_sI K59 Hx0)
  have hf := pm_ie hf c50
  by_cases c61 : x2 = 11
  · have hf := pm_it hf c61
    obtain ⟨k62, hf⟩ := pm_if hf
    obtain ⟨v63, e64, hf⟩ := pm_bd hf
    obtain ⟨v65, e66, hf⟩ := pm_bd hf
    have K67 := rgX2_emit K40 Hx0 e66
    obtain ⟨v68, e69, hf⟩ := pm_bd hf
    have K70 := rgX12_setItem K67 (pr_c K40 Hx0 e64) e69
    obtain ⟨k71, hf⟩ := pm_if hf
    cases hf
    exact (pr_sI K70 Hx0)
  have hf := pm_ie hf c61
  by_cases c72 : x2 = 12
  · have hf := pm_it hf c72
    obtain ⟨k73, hf⟩ := pm_if hf
    obtain ⟨v74, e75, hf⟩ := pm_bd hf
    have K76 := rgX2_branch K40 Hx0 e75
    obtain ⟨k77, hf⟩ := pm_if hf
    cases hf
    exact (pr_sI K76 Hx0)
  have hf := pm_ie hf c72
  by_cases c78 : x2 = 13
  · have hf := pm_it hf c78
    obtain ⟨k79, hf⟩ := pm_if hf
    obtain ⟨v80, e81, hf⟩ := pm_bd hf
    obtain ⟨v82, e83, hf⟩ := pm_bd hf
    have K84 := rgX2_branch K40 Hx0 e83
    obtain ⟨k85, hf⟩ := pm_if hf
    obtain ⟨v86, e87, hf⟩ := pm_bd hf
    obtain ⟨v88, e89, hf⟩ := pm_bd hf
    have K90 := rgX12_setItem K84 (pr_c K40 Hx0 e81) e89
    cases hf
    exact K90
  have hf := pm_ie hf c78
  by_cases c91 : x2 = 14
  · have hf := pm_it hf c91
    obtain ⟨k92, hf⟩ := pm_if hf
    obtain ⟨v93, e94, hf⟩ := pm_bd hf
    have K95 := rgX2_branchByTable K40 Hx0 e94
    cases hf
    exact K95
  have hf := pm_ie hf c91
  by_cases c96 : x2 = 16
  · have hf := pm_it hf c96
    obtain ⟨k97, hf⟩ := pm_if hf
    obtain ⟨v98, e99, hf⟩ := pm_bd hf
    have K100 := rgX2_calling K40 Hx0 e99
    cases hf
    exact K100
  have hf := pm_ie hf c96
  by_cases c101 : x2 = 17
  · have hf := pm_it hf c101
    obtain ⟨k102, hf⟩ := pm_if hf
    obtain ⟨v103, e104, hf⟩ := pm_bd hf
    have K105 := rgX2_calling K40 Hx0 e104
    cases hf
    exact K105
  have hf := pm_ie hf c101
  by_cases c106 : x2 = 26
  · have hf := pm_it hf c106
    obtain ⟨k107, hf⟩ := pm_if hf
    obtain ⟨y108, e109, hf⟩ := pm_lt hf
    cases hf
    exact (pr_sI K40 Hx0)
  have hf := pm_ie hf c106
  by_cases c110 : x2 = 32
  · have hf := pm_it hf c110
    obtain ⟨k111, hf⟩ := pm_if hf
    obtain ⟨v112, e113, hf⟩ := pm_bd hf
    have K114 := rgX2_hold K40 Hx0 e113
    cases hf
    exact K114
  have hf := pm_ie hf c110
  by_cases c115 : x2 = 33
  · have hf := pm_it hf c115
    obtain ⟨k116, hf⟩ := pm_if hf
    obtain ⟨v117, e118, hf⟩ := pm_bd hf
    have K119 := rgX2_setLocal K40 Hx0 e118
    cases hf
    exact K119
  have hf := pm_ie hf c115
  by_cases c120 : x2 = 34
  · have hf := pm_it hf c120
    obtain ⟨k121, hf⟩ := pm_if hf
    obtain ⟨v122, e123, hf⟩ := pm_bd hf
    have K124 := rgX2_setLocal K40 Hx0 e123
    cases hf
    exact K124
  have hf := pm_ie hf c120
  by_cases c125 : x2 = 65
  · have hf := pm_it hf c125
    obtain ⟨k126, hf⟩ := pm_if hf
    obtain ⟨v127, e128, hf⟩ := pm_bd hf
    have K129 := rgX2_holdConstant K40 Hx0 e128
    cases hf
    exact K129
  have hf := pm_ie hf c125
  obtain ⟨k130, hf⟩ := pm_if hf
  obtain ⟨v131, e132, hf⟩ := pm_bd hf
  have K133 := rgX2_plain K40 Hx0 e132
  cases hf
  exact K133
set_option maxHeartbeats 4000000 in
set_option maxRecDepth 100000 in
theorem rgX2_translate {A : Nat → Prop} {h0 h : pm_H} (K0 : pr_F A h0 h) {a0 : Nat} {p1 : Int32} (Ha0 : A a0) {r : (Int32 × pm_H)} (hf : fX2_translate h a0 p1 = some r) : pr_F A h0 r.2 := by
  unfold fX2_translate at hf
  obtain ⟨k1, hf⟩ := pm_if hf
  obtain ⟨v2, e3, hf⟩ := pm_bd hf
  obtain ⟨k4, hf⟩ := pm_if hf
  obtain ⟨v5, e6, hf⟩ := pm_bd hf
  obtain ⟨v7, e8, hf⟩ := pm_bd hf
  obtain ⟨v9, e10, hf⟩ := pm_bd hf
  by_cases c11 : (pm_I h a0 12) = 0
  · have hf := pm_it hf c11
    obtain ⟨v12, e13, hf⟩ := pm_bd hf
    have K14 := rgX2_ownUnseen K0 Ha0 e13
    exact rgX2_translate_b85 K14 Ha0 hf
  · have hf := pm_ie hf c11
    obtain ⟨v15, e16, hf⟩ := pm_bd hf
    obtain ⟨k17, hf⟩ := pm_if hf
    by_cases c18 : (Int32.ofNat (pm_ln h v15)) ≤ p1
    · have hf := pm_it hf c18
      exact rgX2_translate_b85 K0 Ha0 hf
    · have hf := pm_ie hf c18
      obtain ⟨u19, hf⟩ := pm_if hf
      by_cases c20 : (pm_I h v15 p1.toNatClampNeg) = 0
      · have hf := pm_it hf c20
        exact rgX2_translate_b85 K0 Ha0 hf
      · have hf := pm_ie hf c20
        obtain ⟨v21, e22, hf⟩ := pm_bd hf
        have K23 := rgX2_own K0 Ha0 e22
        obtain ⟨k24, hf⟩ := pm_if hf
        by_cases c25 : (pm_I v21 a0 11) ≤ 0
        · have hf := pm_it hf c25
          exact rgX2_translate_b85 K23 Ha0 hf
        · have hf := pm_ie hf c25
          obtain ⟨v26, e27, hf⟩ := pm_bd hf
          have K28 := rgX2_emit K23 Ha0 e27
          exact rgX2_translate_b85 K28 Ha0 hf
set_option maxHeartbeats 4000000 in
set_option maxRecDepth 100000 in
theorem rgX10_atTable {A : Nat → Prop} {h0 h : pm_H} (K0 : pr_F A h0 h) {a0 : Nat} {p1 : Int32} {p2 : Int32} {p3 : Int64} {p4 : Int64} (Ha0 : A a0) {r : (Int64 × pm_H)} (hf : fX10_atTable h a0 p1 p2 p3 p4 = some r) : pr_F A h0 r.2 := by
  unfold fX10_atTable at hf
  obtain ⟨k1, hf⟩ := pm_if hf
  obtain ⟨v2, e3, hf⟩ := pm_bd hf
  obtain ⟨k4, hf⟩ := pm_if hf
  obtain ⟨v5, e6, hf⟩ := pm_bd hf
  by_cases c7 : v5 = 0
  · have hf := pm_it hf c7
    cases hf
    exact (pr_sI K0 Ha0)
  · have hf := pm_ie hf c7
    by_cases c8 : p2 = 37
    · have hf := pm_it hf c8
      obtain ⟨v9, e10, hf⟩ := pm_bd hf
      cases hf
      exact K0
    · have hf := pm_ie hf c8
      obtain ⟨v11, e12, hf⟩ := pm_bd hf
      have K13 := rgX11_setEntry K0 (pr_c K0 Ha0 e3) e12
      cases hf
      exact K13
set_option maxHeartbeats 4000000 in
set_option maxRecDepth 100000 in
theorem rgX12_offer {A : Nat → Prop} {h0 h : pm_H} (K0 : pr_F A h0 h) {a0 : Nat} {p1 : Int32} {p2 : Int32} (Ha0 : A a0) {r : (Int32 × pm_H)} (hf : fX12_offer h a0 p1 p2 = some r) : pr_F A h0 r.2 := by
  unfold fX12_offer at hf
  obtain ⟨k1, hf⟩ := pm_if hf
  by_cases c2 : (pm_I h a0 13) < 64
  · have hf := pm_it hf c2
    by_cases c3 : p1 = (-1)
    · have hf := pm_it hf c3
      by_cases c4 : p2 < 0
      · have hf := pm_it hf c4
        cases hf
        exact K0
      · have hf := pm_ie hf c4
        by_cases c5 : p2 ≤ 63
        · have hf := pm_it hf c5
          obtain ⟨v6, e7, hf⟩ := pm_bd hf
          have K8 := rgX12_offerOf K0 Ha0 e7
          cases hf
          exact K8
        · have hf := pm_ie hf c5
          cases hf
          exact K0
    · have hf := pm_ie hf c3
      obtain ⟨v9, e10, hf⟩ := pm_bd hf
      obtain ⟨k11, hf⟩ := pm_if hf
      obtain ⟨v12, e13, hf⟩ := pm_bd hf
      have K14 := rgX10_instanceAt K0 (pr_c K0 Ha0 e10) e13
      obtain ⟨k15, hf⟩ := pm_if hf
      obtain ⟨v16, e17, hf⟩ := pm_bd hf
      by_cases c18 : 0 ≤ v16
      · have hf := pm_it hf c18
        obtain ⟨v19, e20, hf⟩ := pm_bd hf
        obtain ⟨v21, e22, hf⟩ := pm_bd hf
        have K23 := rgX12_offerOf K0 Ha0 e22
        cases hf
        exact K23
      · have hf := pm_ie hf c18
        cases hf
        exact K0
  · have hf := pm_ie hf c2
    cases hf
    exact K0
set_option maxHeartbeats 4000000 in
set_option maxRecDepth 100000 in
theorem rlX16_accesses1 {A : Nat → Prop} {h0 : pm_H} {r : pm_H} : ∀ n : Nat, (∀ (x0 : Nat) (x1 : Int32) (x6 : Int32) (x7 : Int32) (x8 : Int64) (x10 : Int64) (x12 : Int32) (h : pm_H), pr_F A h0 h → A x0 → pm_iter sX16_accesses1 n (.inl (x0, x1, x6, x7, x8, x10, x12, h)) = some r → pr_F A h0 r) ∧ (∀ (x0 : Nat) (x6 : Int32) (x7 : Int32) (x8 : Int64) (x10 : Int64) (x12 : Int32) (h : pm_H), pr_F A h0 h → A x0 → pm_iter sX16_accesses1 n (.inr (x0, x6, x7, x8, x10, x12, h)) = some r → pr_F A h0 r) := by
  intro n
  induction n with
  | zero => exact ⟨fun _ _ _ _ _ _ _ _ _ _ hf => (by cases hf), fun _ _ _ _ _ _ _ _ _ hf => (by cases hf)⟩
  | succ n ih =>
    refine ⟨fun x0 x1 x6 x7 x8 x10 x12 h K0 Hx0 hf => ?_, ?_⟩
    · obtain ⟨y, hf, hi⟩ := pm_iter_s hf
      have hf : tX16_accesses1_136 x0 x1 x6 x7 x8 x10 x12 h = some y := hf
      unfold tX16_accesses1_136 at hf
      by_cases c57 : x6 ≤ x12
      · have hf := pm_it hf c57
        obtain ⟨y58, e59, hf⟩ := pm_lt hf
        by_cases c60 : x1 ≤ 43
        · have hf := pm_it hf c60
          obtain ⟨v61, e62, hf⟩ := pm_lt hf
          obtain ⟨v63, e64, hf⟩ := pm_lt hf
          obtain ⟨k65, hf⟩ := pm_if hf
          obtain ⟨v66, e67, hf⟩ := pm_bd hf
          have K68 := rgX16_push K0 Hx0 e67
          cases hf
          cases hi
          exact K68
        · have hf := pm_ie hf c60
          by_cases c69 : (x1 - x1 / 2 * 2) = 0
          · have hf := pm_it hf c69
            obtain ⟨y70, e71, hf⟩ := pm_lt hf
            obtain ⟨v72, e73, hf⟩ := pm_lt hf
            obtain ⟨v74, e75, hf⟩ := pm_lt hf
            obtain ⟨k76, hf⟩ := pm_if hf
            obtain ⟨v77, e78, hf⟩ := pm_bd hf
            have K79 := rgX16_push K0 Hx0 e78
            cases hf
            cases hi
            exact K79
          · have hf := pm_ie hf c69
            obtain ⟨v80, e81, hf⟩ := pm_lt hf
            obtain ⟨v82, e83, hf⟩ := pm_lt hf
            obtain ⟨k84, hf⟩ := pm_if hf
            obtain ⟨v85, e86, hf⟩ := pm_bd hf
            have K87 := rgX16_push K0 Hx0 e86
            cases hf
            cases hi
            exact K87
      · have hf := pm_ie hf c57
        obtain ⟨k88, hf⟩ := pm_if hf
        obtain ⟨v89, e90, hf⟩ := pm_bd hf
        obtain ⟨y91, e92, hf⟩ := pm_lt hf
        obtain ⟨y93, e94, hf⟩ := pm_lt hf
        cases hf
        exact ih.1 x0 x1 x6 x7 y91 x10 y93 h K0 Hx0 hi
    refine fun x0 x6 x7 x8 x10 x12 h K0 Hx0 hf => ?_
    obtain ⟨y, hf, hi⟩ := pm_iter_s hf
    have hf : tX16_accesses1_97 x0 x6 x7 x8 x10 x12 h = some y := hf
    unfold tX16_accesses1_97 at hf
    by_cases c95 : x6 ≤ x12
    · have hf := pm_it hf c95
      cases hf
      cases hi
      exact K0
    · have hf := pm_ie hf c95
      obtain ⟨k96, hf⟩ := pm_if hf
      obtain ⟨v97, e98, hf⟩ := pm_bd hf
      have K99 := rgX16_sets K0 Hx0 e98
      obtain ⟨y100, e101, hf⟩ := pm_lt hf
      cases hf
      exact ih.2 x0 x6 x7 x8 x10 y100 v97 K99 Hx0 hi
set_option maxHeartbeats 4000000 in
set_option maxRecDepth 100000 in
theorem rgX16_accesses1 {A : Nat → Prop} {h0 h : pm_H} (K0 : pr_F A h0 h) {a0 : Nat} {p1 : Int32} (Ha0 : A a0) {r : pm_H} (hf : fX16_accesses1 h a0 p1 = some r) : pr_F A h0 r := by
  unfold fX16_accesses1 at hf
  obtain ⟨k1, hf⟩ := pm_if hf
  obtain ⟨v2, e3, hf⟩ := pm_bd hf
  have K4 := rgX16_word K0 Ha0 e3
  obtain ⟨k5, hf⟩ := pm_if hf
  obtain ⟨v6, e7, hf⟩ := pm_bd hf
  have K8 := rgX16_word K4 Ha0 e7
  obtain ⟨v9, e10, hf⟩ := pm_lt hf
  obtain ⟨y11, e12, hf⟩ := pm_lt hf
  obtain ⟨k13, hf⟩ := pm_if hf
  obtain ⟨v14, e15, hf⟩ := pm_bd hf
  obtain ⟨y16, e17, hf⟩ := pm_lt hf
  obtain ⟨k18, hf⟩ := pm_if hf
  obtain ⟨u19, hf⟩ := pm_if hf
  obtain ⟨y20, e21, hf⟩ := pm_lt hf
  by_cases c22 : p1 ≤ 53
  · have hf := pm_it hf c22
    obtain ⟨v23, e24, hf⟩ := pm_bd hf
    have K25 := rgX16_pop K8 Ha0 e24
    obtain ⟨y26, e27, hf⟩ := pm_lt hf
    obtain ⟨k28, hf⟩ := pm_if hf
    obtain ⟨v29, e30, hf⟩ := pm_bd hf
    obtain ⟨k31, hf⟩ := pm_if hf
    obtain ⟨u32, hf⟩ := pm_if hf
    by_cases c33 : (y26 + y11.toInt64) ≤ (65536 * ((pm_I v23.2 v29 y20.toNatClampNeg).toInt64))
    · have hf := pm_it hf c33
      by_cases c34 : p1 ≤ 53
      · have hf := pm_it hf c34
        obtain ⟨n, hn⟩ := pm_lim_iter hf
        exact (rlX16_accesses1 n).1 a0 p1 y11 y20 0 y26 0 v23.2 K25 Ha0 hn
      · have hf := pm_ie hf c34
        obtain ⟨n, hn⟩ := pm_lim_iter hf
        exact (rlX16_accesses1 n).2 a0 y11 y20 0 y26 0 v23.2 K25 Ha0 hn
    · have hf := pm_ie hf c33
      obtain ⟨v35, e36, hf⟩ := pm_bd hf
      have K37 := rgX16_endsBy K25 Ha0 e36
      cases hf
      exact K37
  · have hf := pm_ie hf c22
    obtain ⟨v38, e39, hf⟩ := pm_bd hf
    have K40 := rgX16_pop K8 Ha0 e39
    obtain ⟨k41, hf⟩ := pm_if hf
    obtain ⟨v42, e43, hf⟩ := pm_bd hf
    have K44 := rgX16_pop K40 Ha0 e43
    obtain ⟨y45, e46, hf⟩ := pm_lt hf
    obtain ⟨k47, hf⟩ := pm_if hf
    obtain ⟨v48, e49, hf⟩ := pm_bd hf
    obtain ⟨k50, hf⟩ := pm_if hf
    obtain ⟨u51, hf⟩ := pm_if hf
    by_cases c52 : (y45 + y11.toInt64) ≤ (65536 * ((pm_I v42.2 v48 y20.toNatClampNeg).toInt64))
    · have hf := pm_it hf c52
      by_cases c53 : p1 ≤ 53
      · have hf := pm_it hf c53
        obtain ⟨n, hn⟩ := pm_lim_iter hf
        exact (rlX16_accesses1 n).1 a0 p1 y11 y20 v38.1 y45 0 v42.2 K44 Ha0 hn
      · have hf := pm_ie hf c53
        obtain ⟨n, hn⟩ := pm_lim_iter hf
        exact (rlX16_accesses1 n).2 a0 y11 y20 v38.1 y45 0 v42.2 K44 Ha0 hn
    · have hf := pm_ie hf c52
      obtain ⟨v54, e55, hf⟩ := pm_bd hf
      have K56 := rgX16_endsBy K44 Ha0 e55
      cases hf
      exact K56
set_option maxHeartbeats 4000000 in
set_option maxRecDepth 100000 in
theorem rlX16_behind {A : Nat → Prop} {h0 : pm_H} {r : (Int32 × pm_H)} : ∀ n : Nat, (∀ (x0 : Nat) (x2 : Int32) (h : pm_H), pr_F A h0 h → A x0 → pm_iter sX16_behind n (.inl (x0, x2, h)) = some r → pr_F A h0 r.2) ∧ (∀ (x0 : Nat) (x2 : Int32) (h : pm_H), pr_F A h0 h → A x0 → pm_iter sX16_behind n (.inr (.inl (x0, x2, h))) = some r → pr_F A h0 r.2) ∧ (∀ (x0 : Nat) (x3 : Int64) (x5 : Int64) (h : pm_H), pr_F A h0 h → A x0 → pm_iter sX16_behind n (.inr (.inr (x0, x3, x5, h))) = some r → pr_F A h0 r.2) := by
  intro n
  induction n with
  | zero => exact ⟨fun _ _ _ _ _ hf => (by cases hf), fun _ _ _ _ _ hf => (by cases hf), fun _ _ _ _ _ _ hf => (by cases hf)⟩
  | succ n ih =>
    refine ⟨fun x0 x2 h K0 Hx0 hf => ?_, ?_⟩
    · obtain ⟨y, hf, hi⟩ := pm_iter_s hf
      have hf : tX16_behind_34 x0 x2 h = some y := hf
      unfold tX16_behind_34 at hf
      obtain ⟨v15, e16, hf⟩ := pm_lt hf
      by_cases c17 : v15 = 0
      · have hf := pm_it hf c17
        obtain ⟨v18, e19, hf⟩ := pm_lt hf
        by_cases c20 : v18 = 0
        · have hf := pm_it hf c20
          by_cases c21 : x2 = 17
          · have hf := pm_it hf c21
            obtain ⟨k22, hf⟩ := pm_if hf
            obtain ⟨v23, e24, hf⟩ := pm_bd hf
            have K25 := rgX16_word K0 Hx0 e24
            obtain ⟨k26, hf⟩ := pm_if hf
            obtain ⟨v27, e28, hf⟩ := pm_bd hf
            have K29 := rgX16_word K25 Hx0 e28
            obtain ⟨k30, hf⟩ := pm_if hf
            cases hf
            cases hi
            exact K29
          · have hf := pm_ie hf c21
            by_cases c31 : x2 = 14
            · have hf := pm_it hf c31
              obtain ⟨k32, hf⟩ := pm_if hf
              obtain ⟨v33, e34, hf⟩ := pm_bd hf
              have K35 := rgX16_word K0 Hx0 e34
              cases hf
              exact ih.2.2 x0 v33.1 0 v33.2 K35 Hx0 hi
            · have hf := pm_ie hf c31
              by_cases c36 : x2 = 28
              · have hf := pm_it hf c36
                obtain ⟨k37, hf⟩ := pm_if hf
                obtain ⟨v38, e39, hf⟩ := pm_bd hf
                have K40 := rgX16_word K0 Hx0 e39
                obtain ⟨k41, hf⟩ := pm_if hf
                obtain ⟨y42, e43, hf⟩ := pm_lt hf
                cases hf
                cases hi
                exact (pr_sI K40 Hx0)
              · have hf := pm_ie hf c36
                by_cases c44 : x2 = 63
                · have hf := pm_it hf c44
                  obtain ⟨k45, hf⟩ := pm_if hf
                  obtain ⟨y46, e47, hf⟩ := pm_lt hf
                  cases hf
                  cases hi
                  exact (pr_sI K0 Hx0)
                · have hf := pm_ie hf c44
                  by_cases c48 : x2 = 64
                  · have hf := pm_it hf c48
                    obtain ⟨k49, hf⟩ := pm_if hf
                    obtain ⟨y50, e51, hf⟩ := pm_lt hf
                    cases hf
                    cases hi
                    exact (pr_sI K0 Hx0)
                  · have hf := pm_ie hf c48
                    by_cases c52 : x2 = 208
                    · have hf := pm_it hf c52
                      obtain ⟨k53, hf⟩ := pm_if hf
                      obtain ⟨y54, e55, hf⟩ := pm_lt hf
                      cases hf
                      cases hi
                      exact (pr_sI K0 Hx0)
                    · have hf := pm_ie hf c52
                      by_cases c56 : x2 = 65
                      · have hf := pm_it hf c56
                        obtain ⟨k57, hf⟩ := pm_if hf
                        obtain ⟨v58, e59, hf⟩ := pm_bd hf
                        have K60 := rgX16_signedWord K0 Hx0 e59
                        obtain ⟨k61, hf⟩ := pm_if hf
                        cases hf
                        cases hi
                        exact K60
                      · have hf := pm_ie hf c56
                        by_cases c62 : x2 = 66
                        · have hf := pm_it hf c62
                          obtain ⟨k63, hf⟩ := pm_if hf
                          obtain ⟨v64, e65, hf⟩ := pm_bd hf
                          have K66 := rgX16_signedWord K0 Hx0 e65
                          obtain ⟨k67, hf⟩ := pm_if hf
                          cases hf
                          cases hi
                          exact K66
                        · have hf := pm_ie hf c62
                          by_cases c68 : x2 = 67
                          · have hf := pm_it hf c68
                            cases hf
                            exact ih.2.1 x0 x2 h K0 Hx0 hi
                          · have hf := pm_ie hf c68
                            by_cases c69 : x2 = 68
                            · have hf := pm_it hf c69
                              cases hf
                              exact ih.2.1 x0 x2 h K0 Hx0 hi
                            · have hf := pm_ie hf c69
                              by_cases c70 : x2 = 252
                              · have hf := pm_it hf c70
                                obtain ⟨k71, hf⟩ := pm_if hf
                                obtain ⟨v72, e73, hf⟩ := pm_bd hf
                                have K74 := rgX16_passesFurther K0 Hx0 e73
                                obtain ⟨k75, hf⟩ := pm_if hf
                                cases hf
                                cases hi
                                exact K74
                              · have hf := pm_ie hf c70
                                obtain ⟨k76, hf⟩ := pm_if hf
                                cases hf
                                cases hi
                                exact K0
        · have hf := pm_ie hf c20
          obtain ⟨k77, hf⟩ := pm_if hf
          obtain ⟨v78, e79, hf⟩ := pm_bd hf
          have K80 := rgX16_word K0 Hx0 e79
          obtain ⟨k81, hf⟩ := pm_if hf
          obtain ⟨v82, e83, hf⟩ := pm_bd hf
          have K84 := rgX16_word K80 Hx0 e83
          obtain ⟨k85, hf⟩ := pm_if hf
          cases hf
          cases hi
          exact K84
      · have hf := pm_ie hf c17
        obtain ⟨k86, hf⟩ := pm_if hf
        obtain ⟨v87, e88, hf⟩ := pm_bd hf
        have K89 := rgX16_word K0 Hx0 e88
        obtain ⟨k90, hf⟩ := pm_if hf
        cases hf
        cases hi
        exact K89
    refine ⟨fun x0 x2 h K0 Hx0 hf => ?_, ?_⟩
    · obtain ⟨y, hf, hi⟩ := pm_iter_s hf
      have hf : tX16_behind_204 x0 x2 h = some y := hf
      unfold tX16_behind_204 at hf
      obtain ⟨k99, hf⟩ := pm_if hf
      by_cases c100 : x2 = 67
      · have hf := pm_it hf c100
        obtain ⟨y101, e102, hf⟩ := pm_lt hf
        cases hf
        cases hi
        exact (pr_sI K0 Hx0)
      · have hf := pm_ie hf c100
        obtain ⟨y103, e104, hf⟩ := pm_lt hf
        cases hf
        cases hi
        exact (pr_sI K0 Hx0)
    refine fun x0 x3 x5 h K0 Hx0 hf => ?_
    obtain ⟨y, hf, hi⟩ := pm_iter_s hf
    have hf : tX16_behind_90 x0 x3 x5 h = some y := hf
    unfold tX16_behind_90 at hf
    by_cases c91 : x3 < x5
    · have hf := pm_it hf c91
      obtain ⟨k92, hf⟩ := pm_if hf
      cases hf
      cases hi
      exact K0
    · have hf := pm_ie hf c91
      obtain ⟨k93, hf⟩ := pm_if hf
      obtain ⟨v94, e95, hf⟩ := pm_bd hf
      have K96 := rgX16_word K0 Hx0 e95
      obtain ⟨y97, e98, hf⟩ := pm_lt hf
      cases hf
      exact ih.2.2 x0 x3 y97 v94.2 K96 Hx0 hi
set_option maxHeartbeats 4000000 in
set_option maxRecDepth 100000 in
theorem rgX16_behind {A : Nat → Prop} {h0 h : pm_H} (K0 : pr_F A h0 h) {a0 : Nat} {p1 : Int32} (Ha0 : A a0) {r : (Int32 × pm_H)} (hf : fX16_behind h a0 p1 = some r) : pr_F A h0 r.2 := by
  unfold fX16_behind at hf
  obtain ⟨k1, hf⟩ := pm_if hf
  obtain ⟨v2, e3, hf⟩ := pm_bd hf
  obtain ⟨k4, hf⟩ := pm_if hf
  obtain ⟨v5, e6, hf⟩ := pm_bd hf
  obtain ⟨y7, e8, hf⟩ := pm_lt hf
  by_cases c9 : v5 < 2
  · have hf := pm_it hf c9
    obtain ⟨n, hn⟩ := pm_lim_iter hf
    exact (rlX16_behind n).1 a0 v5 (pm_setI h a0 19 y7) (pr_sI K0 Ha0) Ha0 hn
  · have hf := pm_ie hf c9
    by_cases c10 : 4 < v5
    · have hf := pm_it hf c10
      obtain ⟨n, hn⟩ := pm_lim_iter hf
      exact (rlX16_behind n).1 a0 v5 (pm_setI h a0 19 y7) (pr_sI K0 Ha0) Ha0 hn
    · have hf := pm_ie hf c10
      obtain ⟨v11, e12, hf⟩ := pm_bd hf
      have K13 := rgX16_blockWord (pr_sI K0 Ha0) Ha0 e12
      obtain ⟨k14, hf⟩ := pm_if hf
      cases hf
      exact K13
set_option maxHeartbeats 4000000 in
set_option maxRecDepth 100000 in
theorem rlX16_declaresIn {A : Nat → Prop} {h0 : pm_H} {r : pm_H} : ∀ n : Nat, (∀ (x0 : Nat) (x2 : Int32) (h : pm_H), pr_F A h0 h → A x0 → pm_iter sX16_declaresIn n (.inl (x0, x2, h)) = some r → pr_F A h0 r) ∧ (∀ (x0 : Nat) (x2 : Int32) (h : pm_H), pr_F A h0 h → A x0 → pm_iter sX16_declaresIn n (.inr (.inl (x0, x2, h))) = some r → pr_F A h0 r) ∧ (∀ (x0 : Nat) (x2 : Int32) (x3 : Int32) (s0 : Int32) (s1 : Nat) (h : pm_H), pr_F A h0 h → A x0 → A s1 → pm_iter sX16_declaresIn n (.inr (.inr (.inl (x0, x2, x3, s0, s1, h)))) = some r → pr_F A h0 r) ∧ (∀ (x0 : Nat) (x2 : Int32) (x3 : Int32) (s0 : Int32) (s1 : Int32) (s2 : Nat) (h : pm_H), pr_F A h0 h → A x0 → A s2 → pm_iter sX16_declaresIn n (.inr (.inr (.inr (x0, x2, x3, s0, s1, s2, h)))) = some r → pr_F A h0 r) := by
  intro n
  induction n with
  | zero => exact ⟨fun _ _ _ _ _ hf => (by cases hf), fun _ _ _ _ _ hf => (by cases hf), fun _ _ _ _ _ _ _ _ _ hf => (by cases hf), fun _ _ _ _ _ _ _ _ _ _ hf => (by cases hf)⟩
  | succ n ih =>
    refine ⟨fun x0 x2 h K0 Hx0 hf => ?_, ?_⟩
    · obtain ⟨y, hf, hi⟩ := pm_iter_s hf
      have hf : tX16_declaresIn_2 x0 x2 h = some y := hf
      unfold tX16_declaresIn_2 at hf
      obtain ⟨k1, hf⟩ := pm_if hf
      obtain ⟨v2, e3, hf⟩ := pm_bd hf
      obtain ⟨k4, hf⟩ := pm_if hf
      obtain ⟨v5, e6, hf⟩ := pm_bd hf
      by_cases c7 : v5 = 11
      · have hf := pm_it hf c7
        by_cases c8 : (pm_I h x0 21) ≤ 0
        · have hf := pm_it hf c8
          obtain ⟨y9, e10, hf⟩ := pm_lt hf
          cases hf
          cases hi
          exact (pr_sI K0 Hx0)
        · have hf := pm_ie hf c8
          cases hf
          exact ih.2.1 x0 x2 h K0 Hx0 hi
      · have hf := pm_ie hf c7
        cases hf
        exact ih.2.1 x0 x2 h K0 Hx0 hi
    refine ⟨fun x0 x2 h K0 Hx0 hf => ?_, ?_⟩
    · obtain ⟨y, hf, hi⟩ := pm_iter_s hf
      have hf : tX16_declaresIn_22 x0 x2 h = some y := hf
      unfold tX16_declaresIn_22 at hf
      obtain ⟨k11, hf⟩ := pm_if hf
      obtain ⟨v12, e13, hf⟩ := pm_bd hf
      obtain ⟨k14, hf⟩ := pm_if hf
      obtain ⟨v15, e16, hf⟩ := pm_bd hf
      by_cases c17 : v15 < 2
      · have hf := pm_it hf c17
        cases hf
        exact ih.2.2.1 x0 x2 v15 (pm_I h x0 21) x0 h K0 Hx0 Hx0 hi
      · have hf := pm_ie hf c17
        by_cases c18 : 4 < v15
        · have hf := pm_it hf c18
          cases hf
          exact ih.2.2.1 x0 x2 v15 (pm_I h x0 21) x0 h K0 Hx0 Hx0 hi
        · have hf := pm_ie hf c18
          cases hf
          exact ih.2.2.2 x0 x2 v15 1 (pm_I h x0 21) x0 h K0 Hx0 Hx0 hi
    refine ⟨fun x0 x2 x3 s0 s1 h K0 Hx0 Hs1 hf => ?_, ?_⟩
    · obtain ⟨y, hf, hi⟩ := pm_iter_s hf
      have hf : tX16_declaresIn_50 x0 x2 x3 s0 s1 h = some y := hf
      unfold tX16_declaresIn_50 at hf
      by_cases c19 : x3 = 11
      · have hf := pm_it hf c19
        cases hf
        exact ih.2.2.2 x0 x2 x3 (-1) s0 s1 h K0 Hx0 Hs1 hi
      · have hf := pm_ie hf c19
        cases hf
        exact ih.2.2.2 x0 x2 x3 0 s0 s1 h K0 Hx0 Hs1 hi
    refine fun x0 x2 x3 s0 s1 s2 h K0 Hx0 Hs2 hf => ?_
    obtain ⟨y, hf, hi⟩ := pm_iter_s hf
    have hf : tX16_declaresIn_61 x0 x2 x3 s0 s1 s2 h = some y := hf
    unfold tX16_declaresIn_61 at hf
    obtain ⟨y20, e21, hf⟩ := pm_lt hf
    obtain ⟨k22, hf⟩ := pm_if hf
    obtain ⟨y23, e24, hf⟩ := pm_lt hf
    obtain ⟨k25, hf⟩ := pm_if hf
    by_cases c26 : x3 = 210
    · have hf := pm_it hf c26
      obtain ⟨v27, e28, hf⟩ := pm_bd hf
      have K29 := rgX16_word (pr_sI (pr_sI K0 Hs2) Hx0) Hx0 e28
      obtain ⟨k30, hf⟩ := pm_if hf
      obtain ⟨v31, e32, hf⟩ := pm_bd hf
      have K33 := rgX16_declare K29 Hx0 e32
      obtain ⟨k34, hf⟩ := pm_if hf
      obtain ⟨v35, e36, hf⟩ := pm_bd hf
      have K37 := rgX16_behind K33 Hx0 e36
      cases hf
      exact ih.1 x0 v35.1 v35.2 K37 Hx0 hi
    · have hf := pm_ie hf c26
      obtain ⟨v38, e39, hf⟩ := pm_bd hf
      have K40 := rgX16_behind (pr_sI (pr_sI K0 Hs2) Hx0) Hx0 e39
      cases hf
      exact ih.1 x0 v38.1 v38.2 K40 Hx0 hi
set_option maxHeartbeats 4000000 in
set_option maxRecDepth 100000 in
theorem rgX16_declaresIn {A : Nat → Prop} {h0 h : pm_H} (K0 : pr_F A h0 h) {a0 : Nat} {p1 : Int32} (Ha0 : A a0) {r : pm_H} (hf : fX16_declaresIn h a0 p1 = some r) : pr_F A h0 r := by
  unfold fX16_declaresIn at hf
  obtain ⟨n, hn⟩ := pm_lim_iter hf
  exact (rlX16_declaresIn n).1 a0 p1 h K0 Ha0 hn
