set_option maxHeartbeats 4000000 in
set_option maxRecDepth 100000 in
theorem rlX16_answer {A : Nat → Prop} {h0 : pm_H} {r : (Int32 × pm_H)} : ∀ n : Nat, (∀ (x0 : Nat) (x1 : Int32) (x2 : Int32) (x3 : Int32) (h : pm_H), pr_F A h0 h → A x0 → pm_iter sX16_answer n (x0, x1, x2, x3, h) = some r → pr_F A h0 r.2) := by
  intro n
  induction n with
  | zero => exact fun _ _ _ _ _ _ _ hf => (by cases hf)
  | succ n ih =>
    refine fun x0 x1 x2 x3 h K0 Hx0 hf => ?_
    obtain ⟨y, hf, hi⟩ := pm_iter_s hf
    have hf : tX16_answer_64 x0 x1 x2 x3 h = some y := hf
    unfold tX16_answer_64 at hf
    by_cases c12 : x2 ≤ x3
    · have hf := pm_it hf c12
      obtain ⟨k13, hf⟩ := pm_if hf
      obtain ⟨v14, e15, hf⟩ := pm_bd hf
      have K16 := rgX16_goesOn (pr_sI K0 Hx0) Hx0 e15
      cases hf
      cases hi
      exact K16
    · have hf := pm_ie hf c12
      obtain ⟨k17, hf⟩ := pm_if hf
      obtain ⟨v18, e19, hf⟩ := pm_bd hf
      have K20 := rgX16_planOf K0 Hx0 e19
      obtain ⟨k21, hf⟩ := pm_if hf
      obtain ⟨v22, e23, hf⟩ := pm_bd hf
      obtain ⟨v24, e25, hf⟩ := pm_bd hf
      obtain ⟨k26, hf⟩ := pm_if hf
      obtain ⟨u27, hf⟩ := pm_if hf
      obtain ⟨y28, e29, hf⟩ := pm_lt hf
      obtain ⟨k30, hf⟩ := pm_if hf
      obtain ⟨u31, hf⟩ := pm_if hf
      obtain ⟨v32, e33, hf⟩ := pm_bd hf
      obtain ⟨k34, hf⟩ := pm_if hf
      obtain ⟨u35, hf⟩ := pm_if hf
      obtain ⟨v36, e37, hf⟩ := pm_lt hf
      obtain ⟨v38, e39, hf⟩ := pm_bd hf
      obtain ⟨k40, hf⟩ := pm_if hf
      obtain ⟨u41, hf⟩ := pm_if hf
      by_cases c42 : (pm_I (pm_setL h v38 x3.toNatClampNeg v36) x0 85) ≤ 0
      · have hf := pm_it hf c42
        obtain ⟨y43, e44, hf⟩ := pm_lt hf
        cases hf
        exact ih x0 x1 x2 y43 (pm_setL h v38 x3.toNatClampNeg v36) (pr_sL K0 (pr_c K0 Hx0 e39)) Hx0 hi
      · have hf := pm_ie hf c42
        obtain ⟨v45, e46, hf⟩ := pm_bd hf
        have K47 := rgX16_push (pr_sL K0 (pr_c K0 Hx0 e39)) Hx0 e46
        obtain ⟨y48, e49, hf⟩ := pm_lt hf
        cases hf
        exact ih x0 x1 x2 y48 v45 K47 Hx0 hi
set_option maxHeartbeats 4000000 in
set_option maxRecDepth 100000 in
theorem rgX16_answer {A : Nat → Prop} {h0 h : pm_H} (K0 : pr_F A h0 h) {a0 : Nat} (Ha0 : A a0) {r : (Int32 × pm_H)} (hf : fX16_answer h a0 = some r) : pr_F A h0 r.2 := by
  unfold fX16_answer at hf
  obtain ⟨k1, hf⟩ := pm_if hf
  by_cases c2 : (pm_I h a0 76) = 5
  · have hf := pm_it hf c2
    obtain ⟨y3, e4, hf⟩ := pm_lt hf
    obtain ⟨v5, e6, hf⟩ := pm_bd hf
    by_cases c7 : (pm_I h a0 81) = v5
    · have hf := pm_it hf c7
      obtain ⟨v8, e9, hf⟩ := pm_bd hf
      by_cases c10 : v8 = 0
      · have hf := pm_it hf c10
        cases hf
        exact K0
      · have hf := pm_ie hf c10
        by_cases c11 : (pm_I (pm_setI h a0 81 0) a0 85) = 0
        · have hf := pm_it hf c11
          obtain ⟨n, hn⟩ := pm_lim_iter hf
          exact (rlX16_answer n) a0 y3 v5 0 (pm_setI (pm_setI h a0 81 0) a0 76 2) (pr_sI (pr_sI K0 Ha0) Ha0) Ha0 hn
        · have hf := pm_ie hf c11
          obtain ⟨n, hn⟩ := pm_lim_iter hf
          exact (rlX16_answer n) a0 y3 v5 0 (pm_setI (pm_setI h a0 81 0) a0 76 1) (pr_sI (pr_sI K0 Ha0) Ha0) Ha0 hn
    · have hf := pm_ie hf c7
      cases hf
      exact K0
  · have hf := pm_ie hf c2
    cases hf
    exact K0
set_option maxHeartbeats 4000000 in
set_option maxRecDepth 100000 in
theorem rgX16_calls {A : Nat → Prop} {h0 h : pm_H} (K0 : pr_F A h0 h) {a0 : Nat} {p1 : Int32} (Ha0 : A a0) {r : pm_H} (hf : fX16_calls h a0 p1 = some r) : pr_F A h0 r := by
  unfold fX16_calls at hf
  obtain ⟨k1, hf⟩ := pm_if hf
  obtain ⟨v2, e3, hf⟩ := pm_bd hf
  have K4 := rgX16_enters (pr_sI (pr_sI (pr_sI (pr_sI K0 Ha0) Ha0) Ha0) Ha0) Ha0 e3
  obtain ⟨k5, hf⟩ := pm_if hf
  obtain ⟨v6, e7, hf⟩ := pm_bd hf
  have K8 := rgX16_goesOn K4 Ha0 e7
  cases hf
  exact K8
set_option maxHeartbeats 4000000 in
set_option maxRecDepth 100000 in
theorem rlX16_declares {A : Nat → Prop} {h0 : pm_H} {r : pm_H} : ∀ n : Nat, (∀ (x0 : Nat) (x1 : Int32) (h : pm_H), pr_F A h0 h → A x0 → pm_iter sX16_declares n (.inl (x0, x1, h)) = some r → pr_F A h0 r) ∧ (∀ (x0 : Nat) (x1 : Int32) (h : pm_H), pr_F A h0 h → A x0 → pm_iter sX16_declares n (.inr (.inl (x0, x1, h))) = some r → pr_F A h0 r) ∧ (∀ (x0 : Nat) (x1 : Int32) (h : pm_H), pr_F A h0 h → A x0 → pm_iter sX16_declares n (.inr (.inr (.inl (x0, x1, h)))) = some r → pr_F A h0 r) ∧ (∀ (x0 : Nat) (x1 : Int32) (h : pm_H), pr_F A h0 h → A x0 → pm_iter sX16_declares n (.inr (.inr (.inr (.inl (x0, x1, h))))) = some r → pr_F A h0 r) ∧ (∀ (x0 : Nat) (x1 : Int32) (x2 : Int32) (h : pm_H), pr_F A h0 h → A x0 → pm_iter sX16_declares n (.inr (.inr (.inr (.inr (x0, x1, x2, h))))) = some r → pr_F A h0 r) := by
  intro n
  induction n with
  | zero => exact ⟨fun _ _ _ _ _ hf => (by cases hf), fun _ _ _ _ _ hf => (by cases hf), fun _ _ _ _ _ hf => (by cases hf), fun _ _ _ _ _ hf => (by cases hf), fun _ _ _ _ _ _ hf => (by cases hf)⟩
  | succ n ih =>
    refine ⟨fun x0 x1 h K0 Hx0 hf => ?_, ?_⟩
    · obtain ⟨y, hf, hi⟩ := pm_iter_s hf
      have hf : tX16_declares_2 x0 x1 h = some y := hf
      unfold tX16_declares_2 at hf
      by_cases c1 : 128 ≤ x1
      · have hf := pm_it hf c1
        obtain ⟨k2, hf⟩ := pm_if hf
        cases hf
        exact ih.2.1 x0 0 (pm_setI h x0 21 0) (pr_sI K0 Hx0) Hx0 hi
      · have hf := pm_ie hf c1
        obtain ⟨k3, hf⟩ := pm_if hf
        obtain ⟨v4, e5, hf⟩ := pm_bd hf
        obtain ⟨k6, hf⟩ := pm_if hf
        obtain ⟨u7, hf⟩ := pm_if hf
        obtain ⟨y8, e9, hf⟩ := pm_lt hf
        cases hf
        exact ih.1 x0 y8 (pm_setI h v4 x1.toNatClampNeg (vp_nar .boolean 0)) (pr_sI K0 (pr_c K0 Hx0 e5)) Hx0 hi
    refine ⟨fun x0 x1 h K0 Hx0 hf => ?_, ?_⟩
    · obtain ⟨y, hf, hi⟩ := pm_iter_s hf
      have hf : tX16_declares_29 x0 x1 h = some y := hf
      unfold tX16_declares_29 at hf
      obtain ⟨k10, hf⟩ := pm_if hf
      obtain ⟨v11, e12, hf⟩ := pm_bd hf
      obtain ⟨k13, hf⟩ := pm_if hf
      by_cases c14 : (pm_I h v11 24) ≤ x1
      · have hf := pm_it hf c14
        cases hf
        exact ih.2.2.1 x0 0 h K0 Hx0 hi
      · have hf := pm_ie hf c14
        obtain ⟨v15, e16, hf⟩ := pm_bd hf
        obtain ⟨k17, hf⟩ := pm_if hf
        obtain ⟨u18, hf⟩ := pm_if hf
        obtain ⟨v19, e20, hf⟩ := pm_bd hf
        have K21 := rgX16_declaresIn K0 Hx0 e20
        obtain ⟨y22, e23, hf⟩ := pm_lt hf
        cases hf
        exact ih.2.1 x0 y22 v19 K21 Hx0 hi
    refine ⟨fun x0 x1 h K0 Hx0 hf => ?_, ?_⟩
    · obtain ⟨y, hf, hi⟩ := pm_iter_s hf
      have hf : tX16_declares_61 x0 x1 h = some y := hf
      unfold tX16_declares_61 at hf
      obtain ⟨k24, hf⟩ := pm_if hf
      obtain ⟨v25, e26, hf⟩ := pm_bd hf
      obtain ⟨k27, hf⟩ := pm_if hf
      by_cases c28 : (pm_I h v25 34) ≤ x1
      · have hf := pm_it hf c28
        cases hf
        exact ih.2.2.2.1 x0 0 h K0 Hx0 hi
      · have hf := pm_ie hf c28
        obtain ⟨v29, e30, hf⟩ := pm_bd hf
        obtain ⟨k31, hf⟩ := pm_if hf
        obtain ⟨u32, hf⟩ := pm_if hf
        by_cases c33 : (pm_I h v29 x1.toNatClampNeg) = 0
        · have hf := pm_it hf c33
          obtain ⟨v34, e35, hf⟩ := pm_bd hf
          obtain ⟨k36, hf⟩ := pm_if hf
          obtain ⟨u37, hf⟩ := pm_if hf
          obtain ⟨v38, e39, hf⟩ := pm_bd hf
          have K40 := rgX16_declaresIn K0 Hx0 e39
          obtain ⟨k41, hf⟩ := pm_if hf
          obtain ⟨v42, e43, hf⟩ := pm_bd hf
          obtain ⟨k44, hf⟩ := pm_if hf
          obtain ⟨v45, e46, hf⟩ := pm_bd hf
          obtain ⟨k47, hf⟩ := pm_if hf
          obtain ⟨u48, hf⟩ := pm_if hf
          obtain ⟨y49, e50, hf⟩ := pm_lt hf
          cases hf
          exact ih.2.2.2.2 x0 x1 0 (pm_setI v38 x0 19 y49) (pr_sI K40 Hx0) Hx0 hi
        · have hf := pm_ie hf c33
          obtain ⟨v51, e52, hf⟩ := pm_bd hf
          obtain ⟨k53, hf⟩ := pm_if hf
          obtain ⟨u54, hf⟩ := pm_if hf
          obtain ⟨y55, e56, hf⟩ := pm_lt hf
          cases hf
          exact ih.2.2.2.2 x0 x1 0 (pm_setI h x0 19 y55) (pr_sI K0 Hx0) Hx0 hi
    refine ⟨fun x0 x1 h K0 Hx0 hf => ?_, ?_⟩
    · obtain ⟨y, hf, hi⟩ := pm_iter_s hf
      have hf : tX16_declares_170 x0 x1 h = some y := hf
      unfold tX16_declares_170 at hf
      obtain ⟨k57, hf⟩ := pm_if hf
      obtain ⟨v58, e59, hf⟩ := pm_bd hf
      obtain ⟨k60, hf⟩ := pm_if hf
      by_cases c61 : (pm_I h v58 28) ≤ x1
      · have hf := pm_it hf c61
        cases hf
        cases hi
        exact K0
      · have hf := pm_ie hf c61
        obtain ⟨v62, e63, hf⟩ := pm_bd hf
        obtain ⟨k64, hf⟩ := pm_if hf
        obtain ⟨u65, hf⟩ := pm_if hf
        by_cases c66 : (pm_I h v62 x1.toNatClampNeg) = 0
        · have hf := pm_it hf c66
          obtain ⟨v67, e68, hf⟩ := pm_bd hf
          obtain ⟨k69, hf⟩ := pm_if hf
          obtain ⟨u70, hf⟩ := pm_if hf
          obtain ⟨v71, e72, hf⟩ := pm_bd hf
          have K73 := rgX16_declare K0 Hx0 e72
          obtain ⟨y74, e75, hf⟩ := pm_lt hf
          cases hf
          exact ih.2.2.2.1 x0 y74 v71 K73 Hx0 hi
        · have hf := pm_ie hf c66
          obtain ⟨y76, e77, hf⟩ := pm_lt hf
          cases hf
          exact ih.2.2.2.1 x0 y76 h K0 Hx0 hi
    refine fun x0 x1 x2 h K0 Hx0 hf => ?_
    obtain ⟨y, hf, hi⟩ := pm_iter_s hf
    have hf : tX16_declares_112 x0 x1 x2 h = some y := hf
    unfold tX16_declares_112 at hf
    obtain ⟨k78, hf⟩ := pm_if hf
    obtain ⟨v79, e80, hf⟩ := pm_bd hf
    obtain ⟨k81, hf⟩ := pm_if hf
    obtain ⟨v82, e83, hf⟩ := pm_bd hf
    obtain ⟨k84, hf⟩ := pm_if hf
    obtain ⟨u85, hf⟩ := pm_if hf
    by_cases c86 : (pm_I h v82 x1.toNatClampNeg) ≤ x2
    · have hf := pm_it hf c86
      obtain ⟨y87, e88, hf⟩ := pm_lt hf
      cases hf
      exact ih.2.2.1 x0 y87 h K0 Hx0 hi
    · have hf := pm_ie hf c86
      obtain ⟨v89, e90, hf⟩ := pm_bd hf
      obtain ⟨k91, hf⟩ := pm_if hf
      obtain ⟨u92, hf⟩ := pm_if hf
      by_cases c93 : (pm_I h v89 x1.toNatClampNeg) = 0
      · have hf := pm_it hf c93
        obtain ⟨v94, e95, hf⟩ := pm_bd hf
        have K96 := rgX16_word K0 Hx0 e95
        obtain ⟨k97, hf⟩ := pm_if hf
        obtain ⟨v98, e99, hf⟩ := pm_bd hf
        have K100 := rgX16_declare K96 Hx0 e99
        obtain ⟨y101, e102, hf⟩ := pm_lt hf
        cases hf
        exact ih.2.2.2.2 x0 x1 y101 v98 K100 Hx0 hi
      · have hf := pm_ie hf c93
        obtain ⟨v103, e104, hf⟩ := pm_bd hf
        have K105 := rgX16_declaresIn K0 Hx0 e104
        obtain ⟨y106, e107, hf⟩ := pm_lt hf
        cases hf
        exact ih.2.2.2.2 x0 x1 y106 v103 K105 Hx0 hi
set_option maxHeartbeats 4000000 in
set_option maxRecDepth 100000 in
theorem rgX16_declares {A : Nat → Prop} {h0 h : pm_H} (K0 : pr_F A h0 h) {a0 : Nat} (Ha0 : A a0) {r : pm_H} (hf : fX16_declares h a0 = some r) : pr_F A h0 r := by
  unfold fX16_declares at hf
  obtain ⟨n, hn⟩ := pm_lim_iter hf
  exact (rlX16_declares n).1 a0 0 h K0 Ha0 hn
set_option maxHeartbeats 4000000 in
set_option maxRecDepth 100000 in
theorem rgX16_real {A : Nat → Prop} {h0 h : pm_H} (K0 : pr_F A h0 h) {a0 : Nat} {p1 : Int32} {p2 : Int32} {p3 : Int64} {p4 : Int64} (Ha0 : A a0) {r : (Int64 × pm_H)} (hf : fX16_real h a0 p1 p2 p3 p4 = some r) : pr_F A h0 r.2 := by
  unfold fX16_real at hf
  by_cases c1 : p1 = 0
  · have hf := pm_it hf c1
    obtain ⟨v2, e3, hf⟩ := pm_lt hf
    cases hf
    exact K0
  have hf := pm_ie hf c1
  by_cases c4 : p1 = 1
  · have hf := pm_it hf c4
    obtain ⟨v5, e6, hf⟩ := pm_lt hf
    cases hf
    exact K0
  have hf := pm_ie hf c4
  by_cases c7 : p1 = 2
  · have hf := pm_it hf c7
    obtain ⟨k8, hf⟩ := pm_if hf
    obtain ⟨v9, e10, hf⟩ := pm_bd hf
    have K11 := rgX16_wholeOf K0 Ha0 e10
    cases hf
    exact K11
  have hf := pm_ie hf c7
  by_cases c12 : p1 = 3
  · have hf := pm_it hf c12
    obtain ⟨k13, hf⟩ := pm_if hf
    obtain ⟨v14, e15, hf⟩ := pm_bd hf
    have K16 := rgX16_wholeOf K0 Ha0 e15
    cases hf
    exact K16
  have hf := pm_ie hf c12
  by_cases c17 : p1 = 4
  · have hf := pm_it hf c17
    obtain ⟨k18, hf⟩ := pm_if hf
    obtain ⟨v19, e20, hf⟩ := pm_bd hf
    have K21 := rgX16_wholeOf K0 Ha0 e20
    cases hf
    exact K21
  have hf := pm_ie hf c17
  by_cases c22 : p1 = 5
  · have hf := pm_it hf c22
    obtain ⟨k23, hf⟩ := pm_if hf
    obtain ⟨v24, e25, hf⟩ := pm_bd hf
    have K26 := rgX16_wholeOf K0 Ha0 e25
    cases hf
    exact K26
  have hf := pm_ie hf c22
  by_cases c27 : p1 = 6
  · have hf := pm_it hf c27
    obtain ⟨k28, hf⟩ := pm_if hf
    obtain ⟨v29, e30, hf⟩ := pm_bd hf
    have K31 := rgX16_root K0 Ha0 e30
    cases hf
    exact K31
  have hf := pm_ie hf c27
  by_cases c32 : p1 = 7
  · have hf := pm_it hf c32
    by_cases c33 : p1 = 8
    · have hf := pm_it hf c33
      obtain ⟨k34, hf⟩ := pm_if hf
      obtain ⟨v35, e36, hf⟩ := pm_bd hf
      have K37 := rgX16_sum K0 Ha0 e36
      cases hf
      exact K37
    · have hf := pm_ie hf c33
      obtain ⟨k38, hf⟩ := pm_if hf
      obtain ⟨v39, e40, hf⟩ := pm_bd hf
      have K41 := rgX16_sum K0 Ha0 e40
      cases hf
      exact K41
  have hf := pm_ie hf c32
  by_cases c42 : p1 = 8
  · have hf := pm_it hf c42
    by_cases c43 : p1 = 8
    · have hf := pm_it hf c43
      obtain ⟨k44, hf⟩ := pm_if hf
      obtain ⟨v45, e46, hf⟩ := pm_bd hf
      have K47 := rgX16_sum K0 Ha0 e46
      cases hf
      exact K47
    · have hf := pm_ie hf c43
      obtain ⟨k48, hf⟩ := pm_if hf
      obtain ⟨v49, e50, hf⟩ := pm_bd hf
      have K51 := rgX16_sum K0 Ha0 e50
      cases hf
      exact K51
  have hf := pm_ie hf c42
  by_cases c52 : p1 = 9
  · have hf := pm_it hf c52
    obtain ⟨k53, hf⟩ := pm_if hf
    obtain ⟨v54, e55, hf⟩ := pm_bd hf
    have K56 := rgX16_product K0 Ha0 e55
    cases hf
    exact K56
  have hf := pm_ie hf c52
  by_cases c57 : p1 = 10
  · have hf := pm_it hf c57
    obtain ⟨k58, hf⟩ := pm_if hf
    obtain ⟨v59, e60, hf⟩ := pm_bd hf
    have K61 := rgX16_quotient K0 Ha0 e60
    cases hf
    exact K61
  have hf := pm_ie hf c57
  by_cases c62 : p1 = 11
  · have hf := pm_it hf c62
    by_cases c63 : p1 = 11
    · have hf := pm_it hf c63
      obtain ⟨k64, hf⟩ := pm_if hf
      obtain ⟨v65, e66, hf⟩ := pm_bd hf
      have K67 := rgX16_extreme K0 Ha0 e66
      cases hf
      exact K67
    · have hf := pm_ie hf c63
      obtain ⟨k68, hf⟩ := pm_if hf
      obtain ⟨v69, e70, hf⟩ := pm_bd hf
      have K71 := rgX16_extreme K0 Ha0 e70
      cases hf
      exact K71
  have hf := pm_ie hf c62
  by_cases c72 : p1 = 12
  · have hf := pm_it hf c72
    by_cases c73 : p1 = 11
    · have hf := pm_it hf c73
      obtain ⟨k74, hf⟩ := pm_if hf
      obtain ⟨v75, e76, hf⟩ := pm_bd hf
      have K77 := rgX16_extreme K0 Ha0 e76
      cases hf
      exact K77
    · have hf := pm_ie hf c73
      obtain ⟨k78, hf⟩ := pm_if hf
      obtain ⟨v79, e80, hf⟩ := pm_bd hf
      have K81 := rgX16_extreme K0 Ha0 e80
      cases hf
      exact K81
  have hf := pm_ie hf c72
  obtain ⟨v82, e83, hf⟩ := pm_lt hf
  obtain ⟨v84, e85, hf⟩ := pm_lt hf
  cases hf
  exact K0
set_option maxHeartbeats 4000000 in
set_option maxRecDepth 100000 in
theorem rgX16_reckons_b49 {A : Nat → Prop} {h0 h : pm_H} (K0 : pr_F A h0 h) {x2 : Int64} {x4 : Int64} {x6 : Int32} {s0 : Int32} {s1 : Int32}  {r : (Int64 × pm_H)} (hf : fX16_reckons_b49 h x2 x4 x6 s0 s1 = some r) : pr_F A h0 r.2 := by
  unfold fX16_reckons_b49 at hf
  by_cases c45 : x6 = 0
  · have hf := pm_it hf c45
    by_cases c46 : x6 = 0
    · have hf := pm_it hf c46
      obtain ⟨v47, e48, hf⟩ := pm_bd hf
      by_cases c49 : v47 = 0
      · have hf := pm_it hf c49
        cases hf
        exact K0
      · have hf := pm_ie hf c49
        cases hf
        exact K0
    · have hf := pm_ie hf c46
      obtain ⟨v50, e51, hf⟩ := pm_bd hf
      by_cases c52 : v50 = 0
      · have hf := pm_it hf c52
        cases hf
        exact K0
      · have hf := pm_ie hf c52
        cases hf
        exact K0
  · have hf := pm_ie hf c45
    by_cases c53 : x6 = 0
    · have hf := pm_it hf c53
      obtain ⟨v54, e55, hf⟩ := pm_bd hf
      by_cases c56 : v54 = 0
      · have hf := pm_it hf c56
        cases hf
        exact K0
      · have hf := pm_ie hf c56
        cases hf
        exact K0
    · have hf := pm_ie hf c53
      obtain ⟨v57, e58, hf⟩ := pm_bd hf
      by_cases c59 : v57 = 0
      · have hf := pm_it hf c59
        cases hf
        exact K0
      · have hf := pm_ie hf c59
        cases hf
        exact K0
set_option maxHeartbeats 4000000 in
set_option maxRecDepth 100000 in
theorem rgX16_reckons {A : Nat → Prop} {h0 h : pm_H} (K0 : pr_F A h0 h) {a0 : Nat} {p1 : Int32} {p2 : Int64} {p3 : Int64} (Ha0 : A a0) {r : (Int64 × pm_H)} (hf : fX16_reckons h a0 p1 p2 p3 = some r) : pr_F A h0 r.2 := by
  unfold fX16_reckons at hf
  obtain ⟨v1, e2, hf⟩ := pm_lt hf
  by_cases c3 : p1 = 69
  · have hf := pm_it hf c3
    by_cases c4 : p2 = 0
    · have hf := pm_it hf c4
      cases hf
      exact K0
    · have hf := pm_ie hf c4
      cases hf
      exact K0
  · have hf := pm_ie hf c3
    by_cases c5 : p1 = 80
    · have hf := pm_it hf c5
      by_cases c6 : p2 = 0
      · have hf := pm_it hf c6
        cases hf
        exact K0
      · have hf := pm_ie hf c6
        cases hf
        exact K0
    · have hf := pm_ie hf c5
      by_cases c7 : 91 ≤ p1
      · have hf := pm_it hf c7
        by_cases c8 : 103 ≤ p1
        · have hf := pm_it hf c8
          by_cases c9 : 139 ≤ p1
          · have hf := pm_it hf c9
            by_cases c10 : 167 ≤ p1
            · have hf := pm_it hf c10
              obtain ⟨k11, hf⟩ := pm_if hf
              obtain ⟨v12, e13, hf⟩ := pm_bd hf
              have K14 := rgX16_turned K0 Ha0 e13
              cases hf
              exact K14
            · have hf := pm_ie hf c10
              by_cases c15 : v1 = 2
              · have hf := pm_it hf c15
                obtain ⟨k16, hf⟩ := pm_if hf
                obtain ⟨v17, e18, hf⟩ := pm_bd hf
                have K19 := rgX16_real K0 Ha0 e18
                cases hf
                exact K19
              · have hf := pm_ie hf c15
                obtain ⟨k20, hf⟩ := pm_if hf
                obtain ⟨v21, e22, hf⟩ := pm_bd hf
                have K23 := rgX16_real K0 Ha0 e22
                cases hf
                exact K23
          · have hf := pm_ie hf c9
            by_cases c24 : v1 = 0
            · have hf := pm_it hf c24
              obtain ⟨k25, hf⟩ := pm_if hf
              obtain ⟨v26, e27, hf⟩ := pm_bd hf
              have K28 := rgX16_short32 K0 Ha0 e27
              cases hf
              exact K28
            · have hf := pm_ie hf c24
              obtain ⟨k29, hf⟩ := pm_if hf
              obtain ⟨v30, e31, hf⟩ := pm_bd hf
              have K32 := rgX16_long64 K0 Ha0 e31
              cases hf
              exact K32
        · have hf := pm_ie hf c8
          by_cases c33 : v1 = 2
          · have hf := pm_it hf c33
            obtain ⟨k34, hf⟩ := pm_if hf
            obtain ⟨v35, e36, hf⟩ := pm_bd hf
            have K37 := rgX16_isReal K0 Ha0 e36
            by_cases c38 : v35.1 = 0
            · have hf := pm_it hf c38
              cases hf
              exact K37
            · have hf := pm_ie hf c38
              cases hf
              exact K37
          · have hf := pm_ie hf c33
            obtain ⟨k39, hf⟩ := pm_if hf
            obtain ⟨v40, e41, hf⟩ := pm_bd hf
            have K42 := rgX16_isReal K0 Ha0 e41
            by_cases c43 : v40.1 = 0
            · have hf := pm_it hf c43
              cases hf
              exact K42
            · have hf := pm_ie hf c43
              cases hf
              exact K42
      · have hf := pm_ie hf c7
        by_cases c44 : v1 = 0
        · have hf := pm_it hf c44
          exact rgX16_reckons_b49 K0  hf
        · have hf := pm_ie hf c44
          exact rgX16_reckons_b49 K0  hf
set_option maxHeartbeats 4000000 in
set_option maxRecDepth 100000 in
theorem rlX16_startsUp {A : Nat → Prop} {h0 : pm_H} {r : pm_H} : ∀ n : Nat, (∀ (x0 : Nat) (x1 : Int32) (x2 : Int32) (h : pm_H), pr_F A h0 h → A x0 → pm_iter sX16_startsUp n (.inl (x0, x1, x2, h)) = some r → pr_F A h0 r) ∧ (∀ (x0 : Nat) (x1 : Int32) (x2 : Int32) (h : pm_H), pr_F A h0 h → A x0 → pm_iter sX16_startsUp n (.inr (x0, x1, x2, h)) = some r → pr_F A h0 r) := by
  intro n
  induction n with
  | zero => exact ⟨fun _ _ _ _ _ _ hf => (by cases hf), fun _ _ _ _ _ _ hf => (by cases hf)⟩
  | succ n ih =>
    refine ⟨fun x0 x1 x2 h K0 Hx0 hf => ?_, ?_⟩
    · obtain ⟨y, hf, hi⟩ := pm_iter_s hf
      have hf : tX16_startsUp_2 x0 x1 x2 h = some y := hf
      unfold tX16_startsUp_2 at hf
      obtain ⟨k1, hf⟩ := pm_if hf
      obtain ⟨v2, e3, hf⟩ := pm_bd hf
      obtain ⟨k4, hf⟩ := pm_if hf
      by_cases c5 : (pm_I h v2 34) ≤ x2
      · have hf := pm_it hf c5
        cases hf
        exact ih.2 x0 x1 0 h K0 Hx0 hi
      · have hf := pm_ie hf c5
        obtain ⟨v6, e7, hf⟩ := pm_bd hf
        obtain ⟨k8, hf⟩ := pm_if hf
        obtain ⟨u9, hf⟩ := pm_if hf
        by_cases c10 : (pm_I h v6 x2.toNatClampNeg) = 0
        · have hf := pm_it hf c10
          obtain ⟨v11, e12, hf⟩ := pm_bd hf
          obtain ⟨k13, hf⟩ := pm_if hf
          obtain ⟨u14, hf⟩ := pm_if hf
          obtain ⟨v15, e16, hf⟩ := pm_bd hf
          have K17 := rgX16_constant K0 Hx0 e16
          obtain ⟨k18, hf⟩ := pm_if hf
          obtain ⟨v19, e20, hf⟩ := pm_bd hf
          obtain ⟨v21, e22, hf⟩ := pm_bd hf
          obtain ⟨k23, hf⟩ := pm_if hf
          obtain ⟨v24, e25, hf⟩ := pm_bd hf
          obtain ⟨k26, hf⟩ := pm_if hf
          obtain ⟨u27, hf⟩ := pm_if hf
          obtain ⟨y28, e29, hf⟩ := pm_lt hf
          obtain ⟨k30, hf⟩ := pm_if hf
          obtain ⟨u31, hf⟩ := pm_if hf
          obtain ⟨v32, e33, hf⟩ := pm_bd hf
          obtain ⟨k34, hf⟩ := pm_if hf
          obtain ⟨u35, hf⟩ := pm_if hf
          obtain ⟨v36, e37, hf⟩ := pm_bd hf
          have K38 := rgX16_copiesElement K17 Hx0 e37
          by_cases c39 : v36.1 = 0
          · have hf := pm_it hf c39
            obtain ⟨k40, hf⟩ := pm_if hf
            obtain ⟨v41, e42, hf⟩ := pm_bd hf
            have K43 := rgX16_failsAtOnce K38 Hx0 e42
            cases hf
            cases hi
            exact K43
          · have hf := pm_ie hf c39
            obtain ⟨k44, hf⟩ := pm_if hf
            obtain ⟨v45, e46, hf⟩ := pm_bd hf
            obtain ⟨k47, hf⟩ := pm_if hf
            obtain ⟨v48, e49, hf⟩ := pm_bd hf
            obtain ⟨k50, hf⟩ := pm_if hf
            obtain ⟨u51, hf⟩ := pm_if hf
            by_cases c52 : (pm_I v36.2 v48 x2.toNatClampNeg) = 1
            · have hf := pm_it hf c52
              obtain ⟨y53, e54, hf⟩ := pm_lt hf
              cases hf
              exact ih.1 x0 x1 y53 v36.2 K38 Hx0 hi
            · have hf := pm_ie hf c52
              obtain ⟨v55, e56, hf⟩ := pm_bd hf
              have K57 := rgX16_dropped K38 Hx0 e56
              obtain ⟨y58, e59, hf⟩ := pm_lt hf
              cases hf
              exact ih.1 x0 x1 y58 v55 K57 Hx0 hi
        · have hf := pm_ie hf c10
          obtain ⟨u60, hf⟩ := pm_if hf
          by_cases c61 : (pm_I h v6 x2.toNatClampNeg) = 1
          · have hf := pm_it hf c61
            obtain ⟨y62, e63, hf⟩ := pm_lt hf
            cases hf
            exact ih.1 x0 x1 y62 h K0 Hx0 hi
          · have hf := pm_ie hf c61
            obtain ⟨v64, e65, hf⟩ := pm_bd hf
            have K66 := rgX16_dropped K0 Hx0 e65
            obtain ⟨y67, e68, hf⟩ := pm_lt hf
            cases hf
            exact ih.1 x0 x1 y67 v64 K66 Hx0 hi
    refine fun x0 x1 x2 h K0 Hx0 hf => ?_
    obtain ⟨y, hf, hi⟩ := pm_iter_s hf
    have hf : tX16_startsUp_116 x0 x1 x2 h = some y := hf
    unfold tX16_startsUp_116 at hf
    obtain ⟨k69, hf⟩ := pm_if hf
    obtain ⟨v70, e71, hf⟩ := pm_bd hf
    obtain ⟨k72, hf⟩ := pm_if hf
    by_cases c73 : (pm_I h v70 44) ≤ x2
    · have hf := pm_it hf c73
      by_cases c74 : (pm_L h v70 33) < 0
      · have hf := pm_it hf c74
        cases hf
        cases hi
        exact K0
      · have hf := pm_ie hf c74
        obtain ⟨v75, e76, hf⟩ := pm_bd hf
        obtain ⟨y77, e78, hf⟩ := pm_lt hf
        obtain ⟨k79, hf⟩ := pm_if hf
        obtain ⟨u80, hf⟩ := pm_if hf
        obtain ⟨v81, e82, hf⟩ := pm_bd hf
        have K83 := rgX16_calls K0 Hx0 e82
        cases hf
        cases hi
        exact K83
    · have hf := pm_ie hf c73
      obtain ⟨v84, e85, hf⟩ := pm_bd hf
      obtain ⟨k86, hf⟩ := pm_if hf
      obtain ⟨u87, hf⟩ := pm_if hf
      by_cases c88 : (pm_I h v84 x2.toNatClampNeg) = 0
      · have hf := pm_it hf c88
        obtain ⟨y89, e90, hf⟩ := pm_lt hf
        cases hf
        exact ih.2 x0 x1 y89 h K0 Hx0 hi
      · have hf := pm_ie hf c88
        obtain ⟨v91, e92, hf⟩ := pm_bd hf
        obtain ⟨k93, hf⟩ := pm_if hf
        obtain ⟨u94, hf⟩ := pm_if hf
        obtain ⟨v95, e96, hf⟩ := pm_bd hf
        have K97 := rgX16_constant K0 Hx0 e96
        obtain ⟨k98, hf⟩ := pm_if hf
        obtain ⟨v99, e100, hf⟩ := pm_bd hf
        obtain ⟨y101, e102, hf⟩ := pm_lt hf
        obtain ⟨k103, hf⟩ := pm_if hf
        obtain ⟨u104, hf⟩ := pm_if hf
        obtain ⟨v105, e106, hf⟩ := pm_bd hf
        obtain ⟨k107, hf⟩ := pm_if hf
        obtain ⟨v108, e109, hf⟩ := pm_bd hf
        obtain ⟨k110, hf⟩ := pm_if hf
        obtain ⟨u111, hf⟩ := pm_if hf
        obtain ⟨v112, e113, hf⟩ := pm_bd hf
        have K114 := rgX16_copiesData K97 Hx0 e113
        by_cases c115 : v112.1 = 0
        · have hf := pm_it hf c115
          obtain ⟨k116, hf⟩ := pm_if hf
          obtain ⟨v117, e118, hf⟩ := pm_bd hf
          have K119 := rgX16_failsAtOnce K114 Hx0 e118
          cases hf
          cases hi
          exact K119
        · have hf := pm_ie hf c115
          obtain ⟨k120, hf⟩ := pm_if hf
          obtain ⟨v121, e122, hf⟩ := pm_bd hf
          obtain ⟨k123, hf⟩ := pm_if hf
          obtain ⟨u124, hf⟩ := pm_if hf
          obtain ⟨y125, e126, hf⟩ := pm_lt hf
          cases hf
          exact ih.2 x0 x1 y125 (pm_setI v112.2 v121 (((64 * x1) + x2).toNatClampNeg) (vp_nar .boolean 0)) (pr_sI K114 (pr_c K114 Hx0 e122)) Hx0 hi
set_option maxHeartbeats 4000000 in
set_option maxRecDepth 100000 in
theorem rgX16_startsUp {A : Nat → Prop} {h0 h : pm_H} (K0 : pr_F A h0 h) {a0 : Nat} {p1 : Int32} (Ha0 : A a0) {r : pm_H} (hf : fX16_startsUp h a0 p1 = some r) : pr_F A h0 r := by
  unfold fX16_startsUp at hf
  obtain ⟨n, hn⟩ := pm_lim_iter hf
  exact (rlX16_startsUp n).1 a0 p1 0 h K0 Ha0 hn
set_option maxHeartbeats 4000000 in
set_option maxRecDepth 100000 in
theorem rlX16_call {A : Nat → Prop} {h0 : pm_H} {r : (Int32 × pm_H)} : ∀ n : Nat, (∀ (x0 : Nat) (x3 : Int32) (x4 : Int32) (h : pm_H), pr_F A h0 h → A x0 → pm_iter sX16_call n (x0, x3, x4, h) = some r → pr_F A h0 r.2) := by
  intro n
  induction n with
  | zero => exact fun _ _ _ _ _ _ hf => (by cases hf)
  | succ n ih =>
    refine fun x0 x3 x4 h K0 Hx0 hf => ?_
    obtain ⟨y, hf, hi⟩ := pm_iter_s hf
    have hf : tX16_call_49 x0 x3 x4 h = some y := hf
    unfold tX16_call_49 at hf
    obtain ⟨k21, hf⟩ := pm_if hf
    by_cases c22 : (pm_I h x0 81) ≤ x4
    · have hf := pm_it hf c22
      obtain ⟨v23, e24, hf⟩ := pm_bd hf
      have K25 := rgX16_calls (pr_sI K0 Hx0) Hx0 e24
      cases hf
      cases hi
      exact K25
    · have hf := pm_ie hf c22
      obtain ⟨v26, e27, hf⟩ := pm_bd hf
      obtain ⟨v28, e29, hf⟩ := pm_bd hf
      have K30 := rgX16_planOf K0 Hx0 e29
      obtain ⟨k31, hf⟩ := pm_if hf
      obtain ⟨v32, e33, hf⟩ := pm_bd hf
      obtain ⟨v34, e35, hf⟩ := pm_bd hf
      obtain ⟨k36, hf⟩ := pm_if hf
      obtain ⟨u37, hf⟩ := pm_if hf
      obtain ⟨y38, e39, hf⟩ := pm_lt hf
      obtain ⟨k40, hf⟩ := pm_if hf
      obtain ⟨u41, hf⟩ := pm_if hf
      obtain ⟨v42, e43, hf⟩ := pm_bd hf
      obtain ⟨k44, hf⟩ := pm_if hf
      obtain ⟨u45, hf⟩ := pm_if hf
      obtain ⟨v46, e47, hf⟩ := pm_lt hf
      obtain ⟨k48, hf⟩ := pm_if hf
      obtain ⟨u49, hf⟩ := pm_if hf
      obtain ⟨y50, e51, hf⟩ := pm_lt hf
      cases hf
      exact ih x0 x3 y50 (pm_setL h v26 x4.toNatClampNeg v46) (pr_sL K0 (pr_c K0 Hx0 e27)) Hx0 hi
set_option maxHeartbeats 4000000 in
set_option maxRecDepth 100000 in
theorem rgX16_call {A : Nat → Prop} {h0 h : pm_H} (K0 : pr_F A h0 h) {a0 : Nat} {p1 : Int32} {p2 : Int32} (Ha0 : A a0) {r : (Int32 × pm_H)} (hf : fX16_call h a0 p1 p2 = some r) : pr_F A h0 r.2 := by
  unfold fX16_call at hf
  obtain ⟨k1, hf⟩ := pm_if hf
  obtain ⟨v2, e3, hf⟩ := pm_bd hf
  by_cases c4 : v2 = 0
  · have hf := pm_it hf c4
    obtain ⟨v5, e6, hf⟩ := pm_bd hf
    by_cases c7 : v5 < 0
    · have hf := pm_it hf c7
      cases hf
      exact K0
    · have hf := pm_ie hf c7
      obtain ⟨v8, e9, hf⟩ := pm_bd hf
      by_cases c10 : v8 = (pm_I h a0 81)
      · have hf := pm_it hf c10
        obtain ⟨v11, e12, hf⟩ := pm_bd hf
        by_cases c13 : v11 = 0
        · have hf := pm_it hf c13
          cases hf
          exact K0
        · have hf := pm_ie hf c13
          obtain ⟨n, hn⟩ := pm_lim_iter hf
          exact (rlX16_call n) a0 v5 0 h K0 Ha0 hn
      · have hf := pm_ie hf c10
        cases hf
        exact K0
  · have hf := pm_ie hf c4
    by_cases c14 : ((-1) : Int32) < (0 : Int32)
    · have hf := pm_it hf c14
      cases hf
      exact K0
    · have hf := pm_ie hf c14
      obtain ⟨v15, e16, hf⟩ := pm_bd hf
      by_cases c17 : v15 = (pm_I h a0 81)
      · have hf := pm_it hf c17
        obtain ⟨v18, e19, hf⟩ := pm_bd hf
        by_cases c20 : v18 = 0
        · have hf := pm_it hf c20
          cases hf
          exact K0
        · have hf := pm_ie hf c20
          obtain ⟨n, hn⟩ := pm_lim_iter hf
          exact (rlX16_call n) a0 (-1) 0 h K0 Ha0 hn
      · have hf := pm_ie hf c17
        cases hf
        exact K0
set_option maxHeartbeats 4000000 in
set_option maxRecDepth 100000 in
theorem rgX16_operator_b15 {A : Nat → Prop} {h0 h : pm_H} (K0 : pr_F A h0 h) {x0 : Nat} {x1 : Int32} {s0 : Int64} (Hx0 : A x0) {r : pm_H} (hf : fX16_operator_b15 h x0 x1 s0 = some r) : pr_F A h0 r := by
  unfold fX16_operator_b15 at hf
  obtain ⟨k8, hf⟩ := pm_if hf
  obtain ⟨v9, e10, hf⟩ := pm_bd hf
  have K11 := rgX16_pop K0 Hx0 e10
  obtain ⟨k12, hf⟩ := pm_if hf
  obtain ⟨v13, e14, hf⟩ := pm_bd hf
  have K15 := rgX16_reckons (pr_sI K11 Hx0) Hx0 e14
  obtain ⟨k16, hf⟩ := pm_if hf
  by_cases c17 : (pm_I v13.2 x0 33) ≤ 0
  · have hf := pm_it hf c17
    obtain ⟨v18, e19, hf⟩ := pm_bd hf
    have K20 := rgX16_push K15 Hx0 e19
    cases hf
    exact K20
  · have hf := pm_ie hf c17
    obtain ⟨v21, e22, hf⟩ := pm_bd hf
    have K23 := rgX16_endsBy K15 Hx0 e22
    cases hf
    exact K23
set_option maxHeartbeats 4000000 in
set_option maxRecDepth 100000 in
theorem rgX16_operator {A : Nat → Prop} {h0 h : pm_H} (K0 : pr_F A h0 h) {a0 : Nat} {p1 : Int32} (Ha0 : A a0) {r : pm_H} (hf : fX16_operator h a0 p1 = some r) : pr_F A h0 r := by
  unfold fX16_operator at hf
  obtain ⟨v1, e2, hf⟩ := pm_lt hf
  by_cases c3 : v1 = 0
  · have hf := pm_it hf c3
    exact rgX16_operator_b15 K0 Ha0 hf
  · have hf := pm_ie hf c3
    obtain ⟨k4, hf⟩ := pm_if hf
    obtain ⟨v5, e6, hf⟩ := pm_bd hf
    have K7 := rgX16_pop K0 Ha0 e6
    exact rgX16_operator_b15 K7 Ha0 hf
set_option maxHeartbeats 4000000 in
set_option maxRecDepth 100000 in
theorem rgX16_furtherStep_b65 {A : Nat → Prop} {h0 h : pm_H} (K0 : pr_F A h0 h) {x0 : Nat} {x1 : Int32} {x2 : Int32} {s0 : Int32} (Hx0 : A x0) {r : pm_H} (hf : fX16_furtherStep_b65 h x0 x1 x2 s0 = some r) : pr_F A h0 r := by
  unfold fX16_furtherStep_b65 at hf
  by_cases c22 : x1 = 9
  · have hf := pm_it hf c22
    obtain ⟨k23, hf⟩ := pm_if hf
    obtain ⟨v24, e25, hf⟩ := pm_bd hf
    obtain ⟨k26, hf⟩ := pm_if hf
    obtain ⟨u27, hf⟩ := pm_if hf
    cases hf
    exact (pr_sI K0 (pr_c K0 Hx0 e25))
  · have hf := pm_ie hf c22
    by_cases c28 : x1 = 13
    · have hf := pm_it hf c28
      obtain ⟨k29, hf⟩ := pm_if hf
      obtain ⟨v30, e31, hf⟩ := pm_bd hf
      have K32 := rgX16_dropped K0 Hx0 e31
      cases hf
      exact K32
    · have hf := pm_ie hf c28
      by_cases c33 : 12 ≤ x1
      · have hf := pm_it hf c33
        obtain ⟨k34, hf⟩ := pm_if hf
        obtain ⟨v35, e36, hf⟩ := pm_bd hf
        have K37 := rgX16_tablesStep K0 Hx0 e36
        cases hf
        exact K37
      · have hf := pm_ie hf c33
        obtain ⟨k38, hf⟩ := pm_if hf
        obtain ⟨v39, e40, hf⟩ := pm_bd hf
        have K41 := rgX16_stretches K0 Hx0 e40
        cases hf
        exact K41
set_option maxHeartbeats 4000000 in
set_option maxRecDepth 100000 in
theorem rgX16_furtherStep_b56 {A : Nat → Prop} {h0 h : pm_H} (K0 : pr_F A h0 h) {x0 : Nat} {x1 : Int32} {x2 : Int32} (Hx0 : A x0) {r : pm_H} (hf : fX16_furtherStep_b56 h x0 x1 x2 = some r) : pr_F A h0 r := by
  unfold fX16_furtherStep_b56 at hf
  obtain ⟨k18, hf⟩ := pm_if hf
  obtain ⟨v19, e20, hf⟩ := pm_bd hf
  have K21 := rgX16_word K0 Hx0 e20
  exact rgX16_furtherStep_b65 K21 Hx0 hf
set_option maxHeartbeats 4000000 in
set_option maxRecDepth 100000 in
theorem rgX16_furtherStep_b43 {A : Nat → Prop} {h0 h : pm_H} (K0 : pr_F A h0 h) {x0 : Nat} {x1 : Int32} {s0 : Int32} (Hx0 : A x0) {r : pm_H} (hf : fX16_furtherStep_b43 h x0 x1 s0 = some r) : pr_F A h0 r := by
  unfold fX16_furtherStep_b43 at hf
  by_cases c16 : x1 = 12
  · have hf := pm_it hf c16
    exact rgX16_furtherStep_b56 K0 Hx0 hf
  · have hf := pm_ie hf c16
    by_cases c17 : x1 = 14
    · have hf := pm_it hf c17
      exact rgX16_furtherStep_b56 K0 Hx0 hf
    · have hf := pm_ie hf c17
      exact rgX16_furtherStep_b65 K0 Hx0 hf
set_option maxHeartbeats 4000000 in
set_option maxRecDepth 100000 in
theorem rgX16_furtherStep_b34 {A : Nat → Prop} {h0 h : pm_H} (K0 : pr_F A h0 h) {x0 : Nat} {x1 : Int32} (Hx0 : A x0) {r : pm_H} (hf : fX16_furtherStep_b34 h x0 x1 = some r) : pr_F A h0 r := by
  unfold fX16_furtherStep_b34 at hf
  exact rgX16_furtherStep_b43 K0 Hx0 hf
set_option maxHeartbeats 4000000 in
set_option maxRecDepth 100000 in
theorem rgX16_furtherStep {A : Nat → Prop} {h0 h : pm_H} (K0 : pr_F A h0 h) {a0 : Nat} (Ha0 : A a0) {r : pm_H} (hf : fX16_furtherStep h a0 = some r) : pr_F A h0 r := by
  unfold fX16_furtherStep at hf
  obtain ⟨k1, hf⟩ := pm_if hf
  obtain ⟨v2, e3, hf⟩ := pm_bd hf
  have K4 := rgX16_word K0 Ha0 e3
  by_cases c5 : 8 ≤ v2.1.toInt32
  · have hf := pm_it hf c5
    by_cases c6 : v2.1.toInt32 = 10
    · have hf := pm_it hf c6
      exact rgX16_furtherStep_b34 K4 Ha0 hf
    · have hf := pm_ie hf c6
      by_cases c7 : v2.1.toInt32 = 11
      · have hf := pm_it hf c7
        exact rgX16_furtherStep_b34 K4 Ha0 hf
      · have hf := pm_ie hf c7
        obtain ⟨k8, hf⟩ := pm_if hf
        obtain ⟨v9, e10, hf⟩ := pm_bd hf
        have K11 := rgX16_word K4 Ha0 e10
        exact rgX16_furtherStep_b43 K11 Ha0 hf
  · have hf := pm_ie hf c5
    obtain ⟨k12, hf⟩ := pm_if hf
    obtain ⟨v13, e14, hf⟩ := pm_bd hf
    have K15 := rgX16_operator K4 Ha0 e14
    cases hf
    exact K15
set_option maxHeartbeats 4000000 in
set_option maxRecDepth 100000 in
theorem rgX16_step_b61 {A : Nat → Prop} {h0 h : pm_H} (K0 : pr_F A h0 h) {x0 : Nat} {x1 : Int32} {x2 : Int32} (Hx0 : A x0) {r : pm_H} (hf : fX16_step_b61 h x0 x1 x2 = some r) : pr_F A h0 r := by
  unfold fX16_step_b61 at hf
  by_cases c26 : 32 ≤ x2
  · have hf := pm_it hf c26
    by_cases c27 : 40 ≤ x2
    · have hf := pm_it hf c27
      by_cases c28 : 63 ≤ x2
      · have hf := pm_it hf c28
        by_cases c29 : x2 = 252
        · have hf := pm_it hf c29
          obtain ⟨k30, hf⟩ := pm_if hf
          obtain ⟨v31, e32, hf⟩ := pm_bd hf
          have K33 := rgX16_furtherStep K0 Hx0 e32
          obtain ⟨k34, hf⟩ := pm_if hf
          obtain ⟨v35, e36, hf⟩ := pm_bd hf
          have K37 := rgX16_goesOn K33 Hx0 e36
          cases hf
          exact K37
        · have hf := pm_ie hf c29
          obtain ⟨k38, hf⟩ := pm_if hf
          obtain ⟨v39, e40, hf⟩ := pm_bd hf
          have K41 := rgX16_others K0 Hx0 e40
          obtain ⟨k42, hf⟩ := pm_if hf
          obtain ⟨v43, e44, hf⟩ := pm_bd hf
          have K45 := rgX16_goesOn K41 Hx0 e44
          cases hf
          exact K45
      · have hf := pm_ie hf c28
        obtain ⟨k46, hf⟩ := pm_if hf
        obtain ⟨v47, e48, hf⟩ := pm_bd hf
        have K49 := rgX16_accesses1 K0 Hx0 e48
        obtain ⟨k50, hf⟩ := pm_if hf
        obtain ⟨v51, e52, hf⟩ := pm_bd hf
        have K53 := rgX16_goesOn K49 Hx0 e52
        cases hf
        exact K53
    · have hf := pm_ie hf c27
      obtain ⟨k54, hf⟩ := pm_if hf
      obtain ⟨v55, e56, hf⟩ := pm_bd hf
      have K57 := rgX16_moves K0 Hx0 e56
      obtain ⟨k58, hf⟩ := pm_if hf
      obtain ⟨v59, e60, hf⟩ := pm_bd hf
      have K61 := rgX16_goesOn K57 Hx0 e60
      cases hf
      exact K61
  · have hf := pm_ie hf c26
    obtain ⟨k62, hf⟩ := pm_if hf
    obtain ⟨v63, e64, hf⟩ := pm_bd hf
    have K65 := rgX16_turns K0 Hx0 e64
    obtain ⟨k66, hf⟩ := pm_if hf
    obtain ⟨v67, e68, hf⟩ := pm_bd hf
    have K69 := rgX16_goesOn K65 Hx0 e68
    cases hf
    exact K69
set_option maxHeartbeats 4000000 in
set_option maxRecDepth 100000 in
theorem rgX16_step {A : Nat → Prop} {h0 h : pm_H} (K0 : pr_F A h0 h) {a0 : Nat} (Ha0 : A a0) {r : pm_H} (hf : fX16_step h a0 = some r) : pr_F A h0 r := by
  unfold fX16_step at hf
  obtain ⟨k1, hf⟩ := pm_if hf
  obtain ⟨y2, e3, hf⟩ := pm_lt hf
  obtain ⟨v4, e5, hf⟩ := pm_bd hf
  obtain ⟨k6, hf⟩ := pm_if hf
  obtain ⟨v7, e8, hf⟩ := pm_bd hf
  obtain ⟨y9, e10, hf⟩ := pm_lt hf
  obtain ⟨v11, e12, hf⟩ := pm_bd hf
  have K13 := rgX16_behind (pr_sI K0 Ha0) Ha0 e12
  obtain ⟨k14, hf⟩ := pm_if hf
  obtain ⟨y15, e16, hf⟩ := pm_lt hf
  by_cases c17 : v7 < 69
  · have hf := pm_it hf c17
    exact rgX16_step_b61 (pr_sI (pr_sI K13 Ha0) Ha0) Ha0 hf
  · have hf := pm_ie hf c17
    by_cases c18 : 196 < v7
    · have hf := pm_it hf c18
      exact rgX16_step_b61 (pr_sI (pr_sI K13 Ha0) Ha0) Ha0 hf
    · have hf := pm_ie hf c18
      obtain ⟨v19, e20, hf⟩ := pm_bd hf
      have K21 := rgX16_operator (pr_sI (pr_sI K13 Ha0) Ha0) Ha0 e20
      obtain ⟨k22, hf⟩ := pm_if hf
      obtain ⟨v23, e24, hf⟩ := pm_bd hf
      have K25 := rgX16_goesOn K21 Ha0 e24
      cases hf
      exact K25
set_option maxHeartbeats 4000000 in
set_option maxRecDepth 100000 in
theorem rlX16_run {A : Nat → Prop} {h0 : pm_H} {r : (Int32 × pm_H)} : ∀ n : Nat, (∀ (x0 : Nat) (x1 : Int32) (x2 : Int32) (h : pm_H), pr_F A h0 h → A x0 → pm_iter sX16_run n (x0, x1, x2, h) = some r → pr_F A h0 r.2) := by
  intro n
  induction n with
  | zero => exact fun _ _ _ _ _ _ hf => (by cases hf)
  | succ n ih =>
    refine fun x0 x1 x2 h K0 Hx0 hf => ?_
    obtain ⟨y, hf, hi⟩ := pm_iter_s hf
    have hf : tX16_run_15 x0 x1 x2 h = some y := hf
    unfold tX16_run_15 at hf
    obtain ⟨k3, hf⟩ := pm_if hf
    by_cases c4 : (pm_I h x0 76) = 1
    · have hf := pm_it hf c4
      by_cases c5 : x1 ≤ x2
      · have hf := pm_it hf c5
        cases hf
        cases hi
        exact K0
      · have hf := pm_ie hf c5
        obtain ⟨v6, e7, hf⟩ := pm_bd hf
        have K8 := rgX16_step K0 Hx0 e7
        obtain ⟨y9, e10, hf⟩ := pm_lt hf
        cases hf
        exact ih x0 x1 y9 v6 K8 Hx0 hi
    · have hf := pm_ie hf c4
      cases hf
      cases hi
      exact K0
set_option maxHeartbeats 4000000 in
set_option maxRecDepth 100000 in
theorem rgX16_run {A : Nat → Prop} {h0 h : pm_H} (K0 : pr_F A h0 h) {a0 : Nat} {p1 : Int32} (Ha0 : A a0) {r : (Int32 × pm_H)} (hf : fX16_run h a0 p1 = some r) : pr_F A h0 r.2 := by
  unfold fX16_run at hf
  by_cases c1 : p1 < 0
  · have hf := pm_it hf c1
    cases hf
    exact K0
  · have hf := pm_ie hf c1
    by_cases c2 : p1 ≤ 100000
    · have hf := pm_it hf c2
      obtain ⟨n, hn⟩ := pm_lim_iter hf
      exact (rlX16_run n) a0 p1 0 h K0 Ha0 hn
    · have hf := pm_ie hf c2
      cases hf
      exact K0
set_option maxHeartbeats 4000000 in
set_option maxRecDepth 100000 in
theorem rgX16_stops {A : Nat → Prop} {h0 h : pm_H} (K0 : pr_F A h0 h) {a0 : Nat} {p1 : Int32} {p2 : Int32} (Ha0 : A a0) {r : ((Nat × pm_H) ⊕ pm_H)} (hf : fX16_stops h a0 p1 p2 = some r) : pt_RV A h0 r := by
  unfold fX16_stops at hf
  obtain ⟨k1, hf⟩ := pm_if hf
  obtain ⟨v2, e3, hf⟩ := pm_bd hf
  cases hf
  exact ⟨(pr_sI (pr_sI K0 Ha0) Ha0), (pr_c (pr_sI (pr_sI K0 Ha0) Ha0) Ha0 e3)⟩
set_option maxHeartbeats 4000000 in
set_option maxRecDepth 100000 in
theorem rgX16_take {A : Nat → Prop} {h0 h : pm_H} (K0 : pr_F A h0 h) {a0 : Nat} {p1 : Int32} (Ha0 : A a0) {r : ((Nat × pm_H) ⊕ (Int32 × pm_H))} (hf : fX16_take h a0 p1 = some r) : pt_RI A h0 r := by
  unfold fX16_take at hf
  obtain ⟨k1, hf⟩ := pm_if hf
  obtain ⟨y2, e3, hf⟩ := pm_lt hf
  obtain ⟨v4, e5, hf⟩ := pm_bd hf
  obtain ⟨k6, hf⟩ := pm_if hf
  obtain ⟨u7, hf⟩ := pm_if hf
  by_cases c8 : (pm_I h a0 23) = (pm_I h v4 y2.toNatClampNeg)
  · have hf := pm_it hf c8
    obtain ⟨v9, e10, hf⟩ := pm_bd hf
    obtain ⟨k11, hf⟩ := pm_if hf
    obtain ⟨u12, hf⟩ := pm_if hf
    by_cases c13 : (pm_I h v9 y2.toNatClampNeg) = 0
    · have hf := pm_it hf c13
      obtain ⟨v14, e15, hf⟩ := pm_bd hf
      rcases v14 with z17 | w16
      · have hf := pt_kl hf
        cases hf
        exact (show pr_F A h0 z17.2 ∧ A z17.1 from rgX16_stops K0 Ha0 e15)
      have K18 := (show pr_F A h0 w16 from rgX16_stops K0 Ha0 e15)
      have hf := pt_kr hf
      cases hf
      exact K18
    · have hf := pm_ie hf c13
      cases hf
      exact K0
  · have hf := pm_ie hf c8
    obtain ⟨y19, e20, hf⟩ := pm_lt hf
    obtain ⟨v21, e22, hf⟩ := pm_bd hf
    obtain ⟨y23, e24, hf⟩ := pm_lt hf
    obtain ⟨k25, hf⟩ := pm_if hf
    obtain ⟨u26, hf⟩ := pm_if hf
    obtain ⟨y27, e28, hf⟩ := pm_lt hf
    by_cases c29 : p1 = 0
    · have hf := pm_it hf c29
      cases hf
      exact (pr_sI K0 Ha0)
    · have hf := pm_ie hf c29
      by_cases c30 : y27 = (-1)
      · have hf := pm_it hf c30
        cases hf
        exact (pr_sI K0 Ha0)
      · have hf := pm_ie hf c30
        by_cases c31 : y27 = p1
        · have hf := pm_it hf c31
          cases hf
          exact (pr_sI K0 Ha0)
        · have hf := pm_ie hf c31
          obtain ⟨v32, e33, hf⟩ := pm_bd hf
          rcases v32 with z35 | w34
          · have hf := pt_kl hf
            cases hf
            exact (show pr_F A h0 z35.2 ∧ A z35.1 from rgX16_stops (pr_sI K0 Ha0) Ha0 e33)
          have K36 := (show pr_F A h0 w34 from rgX16_stops (pr_sI K0 Ha0) Ha0 e33)
          have hf := pt_kr hf
          cases hf
          exact K36
set_option maxHeartbeats 4000000 in
set_option maxRecDepth 100000 in
theorem rlX16_takeParameters {A : Nat → Prop} {h0 : pm_H} {r : ((Nat × pm_H) ⊕ pm_H)} : ∀ n : Nat, (∀ (x0 : Nat) (x1 : Int64) (x3 : Int32) (h : pm_H), pr_F A h0 h → A x0 → pm_iter sX16_takeParameters n (x0, x1, x3, h) = some r → pt_RV A h0 r) := by
  intro n
  induction n with
  | zero => exact fun _ _ _ _ _ _ hf => (by cases hf)
  | succ n ih =>
    refine fun x0 x1 x3 h K0 Hx0 hf => ?_
    obtain ⟨y, hf, hi⟩ := pm_iter_s hf
    have hf : tX16_takeParameters_8 x0 x1 x3 h = some y := hf
    unfold tX16_takeParameters_8 at hf
    by_cases c6 : x3 < 0
    · have hf := pm_it hf c6
      cases hf
      cases hi
      exact K0
    · have hf := pm_ie hf c6
      obtain ⟨k7, hf⟩ := pm_if hf
      obtain ⟨v8, e9, hf⟩ := pm_bd hf
      obtain ⟨v10, e11, hf⟩ := pm_bd hf
      rcases v10 with z13 | w12
      · have hf := pt_sl hf
        cases hf
        cases hi
        exact (show pr_F A h0 z13.2 ∧ A z13.1 from rgX16_take K0 Hx0 e11)
      have K14 := (show pr_F A h0 w12.2 from rgX16_take K0 Hx0 e11)
      have hf := pt_sr hf
      obtain ⟨y15, e16, hf⟩ := pm_lt hf
      cases hf
      exact ih x0 x1 y15 w12.2 K14 Hx0 hi
set_option maxHeartbeats 4000000 in
set_option maxRecDepth 100000 in
theorem rgX16_takeParameters {A : Nat → Prop} {h0 h : pm_H} (K0 : pr_F A h0 h) {a0 : Nat} {p1 : Int64} (Ha0 : A a0) {r : ((Nat × pm_H) ⊕ pm_H)} (hf : fX16_takeParameters h a0 p1 = some r) : pt_RV A h0 r := by
  unfold fX16_takeParameters at hf
  obtain ⟨k1, hf⟩ := pm_if hf
  obtain ⟨v2, e3, hf⟩ := pm_bd hf
  obtain ⟨y4, e5, hf⟩ := pm_lt hf
  obtain ⟨n, hn⟩ := pm_lim_iter hf
  exact (rlX16_takeParameters n) a0 p1 y4 h K0 Ha0 hn
set_option maxHeartbeats 4000000 in
set_option maxRecDepth 100000 in
theorem rlX16_takeResults {A : Nat → Prop} {h0 : pm_H} {r : ((Nat × pm_H) ⊕ pm_H)} : ∀ n : Nat, (∀ (x0 : Nat) (x1 : Int64) (x3 : Int32) (h : pm_H), pr_F A h0 h → A x0 → pm_iter sX16_takeResults n (x0, x1, x3, h) = some r → pt_RV A h0 r) := by
  intro n
  induction n with
  | zero => exact fun _ _ _ _ _ _ hf => (by cases hf)
  | succ n ih =>
    refine fun x0 x1 x3 h K0 Hx0 hf => ?_
    obtain ⟨y, hf, hi⟩ := pm_iter_s hf
    have hf : tX16_takeResults_8 x0 x1 x3 h = some y := hf
    unfold tX16_takeResults_8 at hf
    by_cases c6 : x3 < 0
    · have hf := pm_it hf c6
      cases hf
      cases hi
      exact K0
    · have hf := pm_ie hf c6
      obtain ⟨k7, hf⟩ := pm_if hf
      obtain ⟨v8, e9, hf⟩ := pm_bd hf
      obtain ⟨v10, e11, hf⟩ := pm_bd hf
      rcases v10 with z13 | w12
      · have hf := pt_sl hf
        cases hf
        cases hi
        exact (show pr_F A h0 z13.2 ∧ A z13.1 from rgX16_take K0 Hx0 e11)
      have K14 := (show pr_F A h0 w12.2 from rgX16_take K0 Hx0 e11)
      have hf := pt_sr hf
      obtain ⟨y15, e16, hf⟩ := pm_lt hf
      cases hf
      exact ih x0 x1 y15 w12.2 K14 Hx0 hi
set_option maxHeartbeats 4000000 in
set_option maxRecDepth 100000 in
theorem rgX16_takeResults {A : Nat → Prop} {h0 h : pm_H} (K0 : pr_F A h0 h) {a0 : Nat} {p1 : Int64} (Ha0 : A a0) {r : ((Nat × pm_H) ⊕ pm_H)} (hf : fX16_takeResults h a0 p1 = some r) : pt_RV A h0 r := by
  unfold fX16_takeResults at hf
  obtain ⟨k1, hf⟩ := pm_if hf
  obtain ⟨v2, e3, hf⟩ := pm_bd hf
  obtain ⟨y4, e5, hf⟩ := pm_lt hf
  obtain ⟨n, hn⟩ := pm_lim_iter hf
  exact (rlX16_takeResults n) a0 p1 y4 h K0 Ha0 hn
set_option maxHeartbeats 4000000 in
set_option maxRecDepth 100000 in
theorem rlX16_takeWanted {A : Nat → Prop} {h0 : pm_H} {r : ((Nat × pm_H) ⊕ pm_H)} : ∀ n : Nat, (∀ (x0 : Nat) (x1 : Int32) (x2 : Int32) (h : pm_H), pr_F A h0 h → A x0 → pm_iter sX16_takeWanted n (x0, x1, x2, h) = some r → pt_RV A h0 r) := by
  intro n
  induction n with
  | zero => exact fun _ _ _ _ _ _ hf => (by cases hf)
  | succ n ih =>
    refine fun x0 x1 x2 h K0 Hx0 hf => ?_
    obtain ⟨y, hf, hi⟩ := pm_iter_s hf
    have hf : tX16_takeWanted_8 x0 x1 x2 h = some y := hf
    unfold tX16_takeWanted_8 at hf
    by_cases c6 : x2 < 0
    · have hf := pm_it hf c6
      cases hf
      cases hi
      exact K0
    · have hf := pm_ie hf c6
      obtain ⟨k7, hf⟩ := pm_if hf
      obtain ⟨v8, e9, hf⟩ := pm_bd hf
      obtain ⟨v10, e11, hf⟩ := pm_bd hf
      rcases v10 with z13 | w12
      · have hf := pt_sl hf
        cases hf
        cases hi
        exact (show pr_F A h0 z13.2 ∧ A z13.1 from rgX16_take K0 Hx0 e11)
      have K14 := (show pr_F A h0 w12.2 from rgX16_take K0 Hx0 e11)
      have hf := pt_sr hf
      obtain ⟨y15, e16, hf⟩ := pm_lt hf
      cases hf
      exact ih x0 x1 y15 w12.2 K14 Hx0 hi
set_option maxHeartbeats 4000000 in
set_option maxRecDepth 100000 in
theorem rgX16_takeWanted {A : Nat → Prop} {h0 h : pm_H} (K0 : pr_F A h0 h) {a0 : Nat} {p1 : Int32} (Ha0 : A a0) {r : ((Nat × pm_H) ⊕ pm_H)} (hf : fX16_takeWanted h a0 p1 = some r) : pt_RV A h0 r := by
  unfold fX16_takeWanted at hf
  obtain ⟨k1, hf⟩ := pm_if hf
  obtain ⟨v2, e3, hf⟩ := pm_bd hf
  obtain ⟨y4, e5, hf⟩ := pm_lt hf
  obtain ⟨n, hn⟩ := pm_lim_iter hf
  exact (rlX16_takeWanted n) a0 p1 y4 h K0 Ha0 hn
set_option maxHeartbeats 4000000 in
set_option maxRecDepth 100000 in
theorem rlX16_takes {A : Nat → Prop} {h0 : pm_H} {r : ((Nat × pm_H) ⊕ pm_H)} : ∀ n : Nat, (∀ (x0 : Nat) (x1 : Int32) (x2 : Int32) (x3 : Int32) (h : pm_H), pr_F A h0 h → A x0 → pm_iter sX16_takes n (x0, x1, x2, x3, h) = some r → pt_RV A h0 r) := by
  intro n
  induction n with
  | zero => exact fun _ _ _ _ _ _ _ hf => (by cases hf)
  | succ n ih =>
    refine fun x0 x1 x2 x3 h K0 Hx0 hf => ?_
    obtain ⟨y, hf, hi⟩ := pm_iter_s hf
    have hf : tX16_takes_2 x0 x1 x2 x3 h = some y := hf
    unfold tX16_takes_2 at hf
    by_cases c1 : x2 ≤ x3
    · have hf := pm_it hf c1
      cases hf
      cases hi
      exact K0
    · have hf := pm_ie hf c1
      obtain ⟨k2, hf⟩ := pm_if hf
      obtain ⟨v3, e4, hf⟩ := pm_bd hf
      rcases v3 with z6 | w5
      · have hf := pt_sl hf
        cases hf
        cases hi
        exact (show pr_F A h0 z6.2 ∧ A z6.1 from rgX16_take K0 Hx0 e4)
      have K7 := (show pr_F A h0 w5.2 from rgX16_take K0 Hx0 e4)
      have hf := pt_sr hf
      obtain ⟨y8, e9, hf⟩ := pm_lt hf
      cases hf
      exact ih x0 x1 x2 y8 w5.2 K7 Hx0 hi
set_option maxHeartbeats 4000000 in
set_option maxRecDepth 100000 in
theorem rgX16_takes {A : Nat → Prop} {h0 h : pm_H} (K0 : pr_F A h0 h) {a0 : Nat} {p1 : Int32} {p2 : Int32} (Ha0 : A a0) {r : ((Nat × pm_H) ⊕ pm_H)} (hf : fX16_takes h a0 p1 p2 = some r) : pt_RV A h0 r := by
  unfold fX16_takes at hf
  obtain ⟨n, hn⟩ := pm_lim_iter hf
  exact (rlX16_takes n) a0 p1 p2 0 h K0 Ha0 hn
set_option maxHeartbeats 4000000 in
set_option maxRecDepth 100000 in
theorem rgX16_begins_b20 {A : Nat → Prop} {h0 h : pm_H} (K0 : pr_F A h0 h) {x0 : Nat} {x1 : Int32} {x2 : Int64} (Hx0 : A x0) {r : ((Nat × pm_H) ⊕ pm_H)} (hf : fX16_begins_b20 h x0 x1 x2 = some r) : pt_RV A h0 r := by
  unfold fX16_begins_b20 at hf
  obtain ⟨k8, hf⟩ := pm_if hf
  obtain ⟨v9, e10, hf⟩ := pm_bd hf
  obtain ⟨k11, hf⟩ := pm_if hf
  obtain ⟨u12, hf⟩ := pm_if hf
  obtain ⟨v13, e14, hf⟩ := pm_bd hf
  obtain ⟨k15, hf⟩ := pm_if hf
  obtain ⟨u16, hf⟩ := pm_if hf
  obtain ⟨v17, e18, hf⟩ := pm_bd hf
  obtain ⟨y19, e20, hf⟩ := pm_lt hf
  obtain ⟨k21, hf⟩ := pm_if hf
  obtain ⟨u22, hf⟩ := pm_if hf
  obtain ⟨v23, e24, hf⟩ := pm_bd hf
  obtain ⟨k25, hf⟩ := pm_if hf
  obtain ⟨u26, hf⟩ := pm_if hf
  obtain ⟨y27, e28, hf⟩ := pm_lt hf
  cases hf
  exact (pr_sI (pr_sI (pr_sI (pr_sL (pr_sI K0 (pr_c K0 Hx0 e10)) (pr_c (pr_sI K0 (pr_c K0 Hx0 e10)) Hx0 e14)) (pr_c (pr_sL (pr_sI K0 (pr_c K0 Hx0 e10)) (pr_c (pr_sI K0 (pr_c K0 Hx0 e10)) Hx0 e14)) Hx0 e18)) (pr_c (pr_sI (pr_sL (pr_sI K0 (pr_c K0 Hx0 e10)) (pr_c (pr_sI K0 (pr_c K0 Hx0 e10)) Hx0 e14)) (pr_c (pr_sL (pr_sI K0 (pr_c K0 Hx0 e10)) (pr_c (pr_sI K0 (pr_c K0 Hx0 e10)) Hx0 e14)) Hx0 e18)) Hx0 e24)) Hx0)
set_option maxHeartbeats 4000000 in
set_option maxRecDepth 100000 in
theorem rgX16_begins {A : Nat → Prop} {h0 h : pm_H} (K0 : pr_F A h0 h) {a0 : Nat} {p1 : Int32} {p2 : Int64} (Ha0 : A a0) {r : ((Nat × pm_H) ⊕ pm_H)} (hf : fX16_begins h a0 p1 p2 = some r) : pt_RV A h0 r := by
  unfold fX16_begins at hf
  obtain ⟨k1, hf⟩ := pm_if hf
  by_cases c2 : (pm_I h a0 24) = 200
  · have hf := pm_it hf c2
    obtain ⟨v3, e4, hf⟩ := pm_bd hf
    rcases v3 with z6 | w5
    · have hf := pt_kl hf
      cases hf
      exact (show pr_F A h0 z6.2 ∧ A z6.1 from rgX16_stops K0 Ha0 e4)
    have K7 := (show pr_F A h0 w5 from rgX16_stops K0 Ha0 e4)
    have hf := pt_kr hf
    exact rgX16_begins_b20 K7 Ha0 hf
  · have hf := pm_ie hf c2
    exact rgX16_begins_b20 K0 Ha0 hf
set_option maxHeartbeats 4000000 in
set_option maxRecDepth 100000 in
theorem rlX16_character {A : Nat → Prop} {h0 : pm_H} {r : ((Nat × pm_H) ⊕ (Int32 × pm_H))} : ∀ n : Nat, (∀ (x0 : Nat) (x1 : Int32) (x2 : Int32) (x3 : Int32) (h : pm_H), pr_F A h0 h → A x0 → pm_iter sX16_character n (.inl (x0, x1, x2, x3, h)) = some r → pt_RI A h0 r) ∧ (∀ (x0 : Nat) (x1 : Int32) (x2 : Int32) (x3 : Int32) (s0 : Int32) (h : pm_H), pr_F A h0 h → A x0 → pm_iter sX16_character n (.inr (.inl (x0, x1, x2, x3, s0, h))) = some r → pt_RI A h0 r) ∧ (∀ (x0 : Nat) (x1 : Int32) (x3 : Int32) (x4 : Int32) (h : pm_H), pr_F A h0 h → A x0 → pm_iter sX16_character n (.inr (.inr (.inl (x0, x1, x3, x4, h)))) = some r → pt_RI A h0 r) ∧ (∀ (x0 : Nat) (x1 : Int32) (x4 : Int32) (x5 : Int32) (x6 : Int32) (h : pm_H), pr_F A h0 h → A x0 → pm_iter sX16_character n (.inr (.inr (.inr (.inl (x0, x1, x4, x5, x6, h))))) = some r → pt_RI A h0 r) ∧ (∀ (x0 : Nat) (x1 : Int32) (x4 : Int32) (h : pm_H), pr_F A h0 h → A x0 → pm_iter sX16_character n (.inr (.inr (.inr (.inr (.inl (x0, x1, x4, h)))))) = some r → pt_RI A h0 r) ∧ (∀ (x0 : Nat) (x1 : Int32) (x4 : Int32) (x5 : Int32) (h : pm_H), pr_F A h0 h → A x0 → pm_iter sX16_character n (.inr (.inr (.inr (.inr (.inr (.inl (x0, x1, x4, x5, h))))))) = some r → pt_RI A h0 r) ∧ (∀ (x0 : Nat) (x1 : Int32) (x4 : Int32) (x5 : Int32) (h : pm_H), pr_F A h0 h → A x0 → pm_iter sX16_character n (.inr (.inr (.inr (.inr (.inr (.inr (.inl (x0, x1, x4, x5, h)))))))) = some r → pt_RI A h0 r) ∧ (∀ (x0 : Nat) (x1 : Int32) (x4 : Int32) (h : pm_H), pr_F A h0 h → A x0 → pm_iter sX16_character n (.inr (.inr (.inr (.inr (.inr (.inr (.inr (x0, x1, x4, h)))))))) = some r → pt_RI A h0 r) := by
  intro n
  induction n with
  | zero => exact ⟨fun _ _ _ _ _ _ _ hf => (by cases hf), fun _ _ _ _ _ _ _ _ hf => (by cases hf), fun _ _ _ _ _ _ _ hf => (by cases hf), fun _ _ _ _ _ _ _ _ hf => (by cases hf), fun _ _ _ _ _ _ hf => (by cases hf), fun _ _ _ _ _ _ _ hf => (by cases hf), fun _ _ _ _ _ _ _ hf => (by cases hf), fun _ _ _ _ _ _ hf => (by cases hf)⟩
  | succ n ih =>
    refine ⟨fun x0 x1 x2 x3 h K0 Hx0 hf => ?_, ?_⟩
    · obtain ⟨y, hf, hi⟩ := pm_iter_s hf
      have hf : tX16_character_38 x0 x1 x2 x3 h = some y := hf
      unfold tX16_character_38 at hf
      by_cases c10 : x3 < 224
      · have hf := pm_it hf c10
        by_cases c11 : x3 < 240
        · have hf := pm_it hf c11
          cases hf
          exact ih.2.1 x0 x1 x2 x3 9 h K0 Hx0 hi
        · have hf := pm_ie hf c11
          by_cases c12 : 248 ≤ x3
          · have hf := pm_it hf c12
            cases hf
            exact ih.2.1 x0 x1 x2 x3 9 h K0 Hx0 hi
          · have hf := pm_ie hf c12
            cases hf
            exact ih.2.1 x0 x1 x2 x3 3 h K0 Hx0 hi
      · have hf := pm_ie hf c10
        by_cases c13 : 240 ≤ x3
        · have hf := pm_it hf c13
          by_cases c14 : x3 < 240
          · have hf := pm_it hf c14
            cases hf
            exact ih.2.1 x0 x1 x2 x3 9 h K0 Hx0 hi
          · have hf := pm_ie hf c14
            by_cases c15 : 248 ≤ x3
            · have hf := pm_it hf c15
              cases hf
              exact ih.2.1 x0 x1 x2 x3 9 h K0 Hx0 hi
            · have hf := pm_ie hf c15
              cases hf
              exact ih.2.1 x0 x1 x2 x3 3 h K0 Hx0 hi
        · have hf := pm_ie hf c13
          cases hf
          exact ih.2.1 x0 x1 x2 x3 2 h K0 Hx0 hi
    refine ⟨fun x0 x1 x2 x3 s0 h K0 Hx0 hf => ?_, ?_⟩
    · obtain ⟨y, hf, hi⟩ := pm_iter_s hf
      have hf : tX16_character_76 x0 x1 x2 x3 s0 h = some y := hf
      unfold tX16_character_76 at hf
      by_cases c16 : (x1 + s0) < x2
      · have hf := pm_it hf c16
        cases hf
        exact ih.2.2.1 x0 x1 x3 s0 h K0 Hx0 hi
      · have hf := pm_ie hf c16
        obtain ⟨k17, hf⟩ := pm_if hf
        obtain ⟨v18, e19, hf⟩ := pm_bd hf
        rcases v18 with z21 | w20
        · have hf := pt_sl hf
          cases hf
          cases hi
          exact (show pr_F A h0 z21.2 ∧ A z21.1 from rgX16_stops K0 Hx0 e19)
        have K22 := (show pr_F A h0 w20 from rgX16_stops K0 Hx0 e19)
        have hf := pt_sr hf
        cases hf
        exact ih.2.2.1 x0 x1 x3 s0 w20 K22 Hx0 hi
    refine ⟨fun x0 x1 x3 x4 h K0 Hx0 hf => ?_, ?_⟩
    · obtain ⟨y, hf, hi⟩ := pm_iter_s hf
      have hf : tX16_character_93 x0 x1 x3 x4 h = some y := hf
      unfold tX16_character_93 at hf
      by_cases c23 : x4 = 0
      · have hf := pm_it hf c23
        cases hf
        exact ih.2.2.2.1 x0 x1 x4 x3 1 h K0 Hx0 hi
      · have hf := pm_ie hf c23
        by_cases c24 : x4 = 1
        · have hf := pm_it hf c24
          obtain ⟨y25, e26, hf⟩ := pm_lt hf
          cases hf
          exact ih.2.2.2.1 x0 x1 x4 y25 1 h K0 Hx0 hi
        · have hf := pm_ie hf c24
          by_cases c27 : x4 = 2
          · have hf := pm_it hf c27
            obtain ⟨y28, e29, hf⟩ := pm_lt hf
            cases hf
            exact ih.2.2.2.1 x0 x1 x4 y28 1 h K0 Hx0 hi
          · have hf := pm_ie hf c27
            obtain ⟨y30, e31, hf⟩ := pm_lt hf
            cases hf
            exact ih.2.2.2.1 x0 x1 x4 y30 1 h K0 Hx0 hi
    refine ⟨fun x0 x1 x4 x5 x6 h K0 Hx0 hf => ?_, ?_⟩
    · obtain ⟨y, hf, hi⟩ := pm_iter_s hf
      have hf : tX16_character_137 x0 x1 x4 x5 x6 h = some y := hf
      unfold tX16_character_137 at hf
      by_cases c32 : x4 < x6
      · have hf := pm_it hf c32
        by_cases c33 : x4 = 0
        · have hf := pm_it hf c33
          cases hf
          exact ih.2.2.2.2.1 x0 x1 x4 h K0 Hx0 hi
        · have hf := pm_ie hf c33
          by_cases c34 : x4 = 1
          · have hf := pm_it hf c34
            by_cases c35 : 128 ≤ x5
            · have hf := pm_it hf c35
              cases hf
              exact ih.2.2.2.2.1 x0 x1 x4 h K0 Hx0 hi
            · have hf := pm_ie hf c35
              cases hf
              exact ih.2.2.2.2.2.1 x0 x1 x4 x5 h K0 Hx0 hi
          · have hf := pm_ie hf c34
            cases hf
            exact ih.2.2.2.2.2.1 x0 x1 x4 x5 h K0 Hx0 hi
      · have hf := pm_ie hf c32
        obtain ⟨k36, hf⟩ := pm_if hf
        obtain ⟨v37, e38, hf⟩ := pm_bd hf
        obtain ⟨k39, hf⟩ := pm_if hf
        obtain ⟨v40, e41, hf⟩ := pm_bd hf
        by_cases c42 : (v40 >>> ((6 : Int32) &&& 31)) = 2
        · have hf := pm_it hf c42
          obtain ⟨y43, e44, hf⟩ := pm_lt hf
          obtain ⟨y45, e46, hf⟩ := pm_lt hf
          cases hf
          exact ih.2.2.2.1 x0 x1 x4 y43 y45 h K0 Hx0 hi
        · have hf := pm_ie hf c42
          obtain ⟨v47, e48, hf⟩ := pm_bd hf
          rcases v47 with z50 | w49
          · have hf := pt_sl hf
            cases hf
            cases hi
            exact (show pr_F A h0 z50.2 ∧ A z50.1 from rgX16_stops K0 Hx0 e48)
          have K51 := (show pr_F A h0 w49 from rgX16_stops K0 Hx0 e48)
          have hf := pt_sr hf
          obtain ⟨y52, e53, hf⟩ := pm_lt hf
          obtain ⟨y54, e55, hf⟩ := pm_lt hf
          cases hf
          exact ih.2.2.2.1 x0 x1 x4 y52 y54 w49 K51 Hx0 hi
    refine ⟨fun x0 x1 x4 h K0 Hx0 hf => ?_, ?_⟩
    · obtain ⟨y, hf, hi⟩ := pm_iter_s hf
      have hf : tX16_character_263 x0 x1 x4 h = some y := hf
      unfold tX16_character_263 at hf
      by_cases c56 : (1 : Int32) = (0 : Int32)
      · have hf := pm_it hf c56
        obtain ⟨k57, hf⟩ := pm_if hf
        obtain ⟨v58, e59, hf⟩ := pm_bd hf
        rcases v58 with z61 | w60
        · have hf := pt_sl hf
          cases hf
          cases hi
          exact (show pr_F A h0 z61.2 ∧ A z61.1 from rgX16_stops K0 Hx0 e59)
        have K62 := (show pr_F A h0 w60 from rgX16_stops K0 Hx0 e59)
        have hf := pt_sr hf
        cases hf
        cases hi
        exact K62
      · have hf := pm_ie hf c56
        cases hf
        cases hi
        exact K0
    refine ⟨fun x0 x1 x4 x5 h K0 Hx0 hf => ?_, ?_⟩
    · obtain ⟨y, hf, hi⟩ := pm_iter_s hf
      have hf : tX16_character_211 x0 x1 x4 x5 h = some y := hf
      unfold tX16_character_211 at hf
      by_cases c63 : x4 = 2
      · have hf := pm_it hf c63
        by_cases c64 : x5 < 2048
        · have hf := pm_it hf c64
          cases hf
          exact ih.2.2.2.2.2.2.1 x0 x1 x4 x5 h K0 Hx0 hi
        · have hf := pm_ie hf c64
          by_cases c65 : x5 < 55296
          · have hf := pm_it hf c65
            cases hf
            exact ih.2.2.2.2.1 x0 x1 x4 h K0 Hx0 hi
          · have hf := pm_ie hf c65
            by_cases c66 : 57343 < x5
            · have hf := pm_it hf c66
              cases hf
              exact ih.2.2.2.2.1 x0 x1 x4 h K0 Hx0 hi
            · have hf := pm_ie hf c66
              cases hf
              exact ih.2.2.2.2.2.2.1 x0 x1 x4 x5 h K0 Hx0 hi
      · have hf := pm_ie hf c63
        cases hf
        exact ih.2.2.2.2.2.2.1 x0 x1 x4 x5 h K0 Hx0 hi
    refine ⟨fun x0 x1 x4 x5 h K0 Hx0 hf => ?_, ?_⟩
    · obtain ⟨y, hf, hi⟩ := pm_iter_s hf
      have hf : tX16_character_241 x0 x1 x4 x5 h = some y := hf
      unfold tX16_character_241 at hf
      by_cases c67 : x4 = 3
      · have hf := pm_it hf c67
        by_cases c68 : x5 < 65536
        · have hf := pm_it hf c68
          cases hf
          exact ih.2.2.2.2.2.2.2 x0 x1 x4 h K0 Hx0 hi
        · have hf := pm_ie hf c68
          by_cases c69 : 1114111 < x5
          · have hf := pm_it hf c69
            cases hf
            exact ih.2.2.2.2.2.2.2 x0 x1 x4 h K0 Hx0 hi
          · have hf := pm_ie hf c69
            cases hf
            exact ih.2.2.2.2.1 x0 x1 x4 h K0 Hx0 hi
      · have hf := pm_ie hf c67
        cases hf
        exact ih.2.2.2.2.2.2.2 x0 x1 x4 h K0 Hx0 hi
    refine fun x0 x1 x4 h K0 Hx0 hf => ?_
    obtain ⟨y, hf, hi⟩ := pm_iter_s hf
    have hf : tX16_character_267 x0 x1 x4 h = some y := hf
    unfold tX16_character_267 at hf
    by_cases c70 : (0 : Int32) = (0 : Int32)
    · have hf := pm_it hf c70
      obtain ⟨k71, hf⟩ := pm_if hf
      obtain ⟨v72, e73, hf⟩ := pm_bd hf
      rcases v72 with z75 | w74
      · have hf := pt_sl hf
        cases hf
        cases hi
        exact (show pr_F A h0 z75.2 ∧ A z75.1 from rgX16_stops K0 Hx0 e73)
      have K76 := (show pr_F A h0 w74 from rgX16_stops K0 Hx0 e73)
      have hf := pt_sr hf
      cases hf
      cases hi
      exact K76
    · have hf := pm_ie hf c70
      cases hf
      cases hi
      exact K0
set_option maxHeartbeats 4000000 in
set_option maxRecDepth 100000 in
theorem rgX16_character {A : Nat → Prop} {h0 h : pm_H} (K0 : pr_F A h0 h) {a0 : Nat} {p1 : Int32} {p2 : Int32} (Ha0 : A a0) {r : ((Nat × pm_H) ⊕ (Int32 × pm_H))} (hf : fX16_character h a0 p1 p2 = some r) : pt_RI A h0 r := by
  unfold fX16_character at hf
  obtain ⟨k1, hf⟩ := pm_if hf
  obtain ⟨v2, e3, hf⟩ := pm_bd hf
  obtain ⟨k4, hf⟩ := pm_if hf
  obtain ⟨v5, e6, hf⟩ := pm_bd hf
  by_cases c7 : 128 ≤ v5
  · have hf := pm_it hf c7
    by_cases c8 : v5 < 192
    · have hf := pm_it hf c8
      obtain ⟨n, hn⟩ := pm_lim_iter hf
      exact (rlX16_character n).1 a0 p1 p2 v5 h K0 Ha0 hn
    · have hf := pm_ie hf c8
      by_cases c9 : 224 ≤ v5
      · have hf := pm_it hf c9
        obtain ⟨n, hn⟩ := pm_lim_iter hf
        exact (rlX16_character n).1 a0 p1 p2 v5 h K0 Ha0 hn
      · have hf := pm_ie hf c9
        obtain ⟨n, hn⟩ := pm_lim_iter hf
        exact (rlX16_character n).2.1 a0 p1 p2 v5 1 h K0 Ha0 hn
  · have hf := pm_ie hf c7
    obtain ⟨n, hn⟩ := pm_lim_iter hf
    exact (rlX16_character n).2.1 a0 p1 p2 v5 0 h K0 Ha0 hn
set_option maxHeartbeats 4000000 in
set_option maxRecDepth 100000 in
theorem rlX16_checksExports {A : Nat → Prop} {h0 : pm_H} {r : ((Nat × pm_H) ⊕ pm_H)} : ∀ n : Nat, (∀ (x0 : Nat) (x1 : Int32) (h : pm_H), pr_F A h0 h → A x0 → pm_iter sX16_checksExports n (.inl (x0, x1, h)) = some r → pt_RV A h0 r) ∧ (∀ (x0 : Nat) (x1 : Int32) (x2 : Int32) (h : pm_H), pr_F A h0 h → A x0 → pm_iter sX16_checksExports n (.inr (x0, x1, x2, h)) = some r → pt_RV A h0 r) := by
  intro n
  induction n with
  | zero => exact ⟨fun _ _ _ _ _ hf => (by cases hf), fun _ _ _ _ _ _ hf => (by cases hf)⟩
  | succ n ih =>
    refine ⟨fun x0 x1 h K0 Hx0 hf => ?_, ?_⟩
    · obtain ⟨y, hf, hi⟩ := pm_iter_s hf
      have hf : tX16_checksExports_2 x0 x1 h = some y := hf
      unfold tX16_checksExports_2 at hf
      obtain ⟨k1, hf⟩ := pm_if hf
      obtain ⟨v2, e3, hf⟩ := pm_bd hf
      obtain ⟨k4, hf⟩ := pm_if hf
      by_cases c5 : (pm_I h v2 28) ≤ x1
      · have hf := pm_it hf c5
        cases hf
        cases hi
        exact K0
      · have hf := pm_ie hf c5
        obtain ⟨v6, e7, hf⟩ := pm_bd hf
        obtain ⟨k8, hf⟩ := pm_if hf
        obtain ⟨u9, hf⟩ := pm_if hf
        obtain ⟨v10, e11, hf⟩ := pm_bd hf
        obtain ⟨k12, hf⟩ := pm_if hf
        obtain ⟨u13, hf⟩ := pm_if hf
        obtain ⟨v14, e15, hf⟩ := pm_bd hf
        by_cases c16 : (pm_L h v6 x1.toNatClampNeg) < v14.toInt64
        · have hf := pm_it hf c16
          cases hf
          exact ih.2 x0 x1 0 h K0 Hx0 hi
        · have hf := pm_ie hf c16
          obtain ⟨v17, e18, hf⟩ := pm_bd hf
          obtain ⟨k19, hf⟩ := pm_if hf
          obtain ⟨u20, hf⟩ := pm_if hf
          obtain ⟨v21, e22, hf⟩ := pm_bd hf
          rcases v21 with z24 | w23
          · have hf := pt_sl hf
            cases hf
            cases hi
            exact (show pr_F A h0 z24.2 ∧ A z24.1 from rgX16_stops K0 Hx0 e22)
          have K25 := (show pr_F A h0 w23 from rgX16_stops K0 Hx0 e22)
          have hf := pt_sr hf
          cases hf
          exact ih.2 x0 x1 0 w23 K25 Hx0 hi
    refine fun x0 x1 x2 h K0 Hx0 hf => ?_
    obtain ⟨y, hf, hi⟩ := pm_iter_s hf
    have hf : tX16_checksExports_61 x0 x1 x2 h = some y := hf
    unfold tX16_checksExports_61 at hf
    by_cases c26 : x1 ≤ x2
    · have hf := pm_it hf c26
      obtain ⟨y27, e28, hf⟩ := pm_lt hf
      cases hf
      exact ih.1 x0 y27 h K0 Hx0 hi
    · have hf := pm_ie hf c26
      obtain ⟨k29, hf⟩ := pm_if hf
      obtain ⟨v30, e31, hf⟩ := pm_bd hf
      by_cases c32 : v30 = 0
      · have hf := pm_it hf c32
        obtain ⟨y33, e34, hf⟩ := pm_lt hf
        cases hf
        exact ih.2 x0 x1 y33 h K0 Hx0 hi
      · have hf := pm_ie hf c32
        obtain ⟨v35, e36, hf⟩ := pm_bd hf
        obtain ⟨k37, hf⟩ := pm_if hf
        obtain ⟨v38, e39, hf⟩ := pm_bd hf
        obtain ⟨k40, hf⟩ := pm_if hf
        obtain ⟨u41, hf⟩ := pm_if hf
        obtain ⟨v42, e43, hf⟩ := pm_bd hf
        rcases v42 with z45 | w44
        · have hf := pt_sl hf
          cases hf
          cases hi
          exact (show pr_F A h0 z45.2 ∧ A z45.1 from rgX16_stops K0 Hx0 e43)
        have K46 := (show pr_F A h0 w44 from rgX16_stops K0 Hx0 e43)
        have hf := pt_sr hf
        obtain ⟨y47, e48, hf⟩ := pm_lt hf
        cases hf
        exact ih.2 x0 x1 y47 w44 K46 Hx0 hi
set_option maxHeartbeats 4000000 in
set_option maxRecDepth 100000 in
theorem rgX16_checksExports {A : Nat → Prop} {h0 h : pm_H} (K0 : pr_F A h0 h) {a0 : Nat} (Ha0 : A a0) {r : ((Nat × pm_H) ⊕ pm_H)} (hf : fX16_checksExports h a0 = some r) : pt_RV A h0 r := by
  unfold fX16_checksExports at hf
  obtain ⟨n, hn⟩ := pm_lim_iter hf
  exact (rlX16_checksExports n).1 a0 0 h K0 Ha0 hn
set_option maxHeartbeats 4000000 in
set_option maxRecDepth 100000 in
theorem rlX16_checksLimits {A : Nat → Prop} {h0 : pm_H} {r : ((Nat × pm_H) ⊕ pm_H)} : ∀ n : Nat, (∀ (x0 : Nat) (x1 : Int32) (h : pm_H), pr_F A h0 h → A x0 → pm_iter sX16_checksLimits n (.inl (x0, x1, h)) = some r → pt_RV A h0 r) ∧ (∀ (x0 : Nat) (x1 : Int32) (h : pm_H), pr_F A h0 h → A x0 → pm_iter sX16_checksLimits n (.inr (.inl (x0, x1, h))) = some r → pt_RV A h0 r) ∧ (∀ (x0 : Nat) (x1 : Int32) (x2 : Int32) (h : pm_H), pr_F A h0 h → A x0 → pm_iter sX16_checksLimits n (.inr (.inr (.inl (x0, x1, x2, h)))) = some r → pt_RV A h0 r) ∧ (∀ (x0 : Nat) (x1 : Int32) (h : pm_H), pr_F A h0 h → A x0 → pm_iter sX16_checksLimits n (.inr (.inr (.inr (x0, x1, h)))) = some r → pt_RV A h0 r) := by
  intro n
  induction n with
  | zero => exact ⟨fun _ _ _ _ _ hf => (by cases hf), fun _ _ _ _ _ hf => (by cases hf), fun _ _ _ _ _ _ hf => (by cases hf), fun _ _ _ _ _ hf => (by cases hf)⟩
  | succ n ih =>
    refine ⟨fun x0 x1 h K0 Hx0 hf => ?_, ?_⟩
    · obtain ⟨y, hf, hi⟩ := pm_iter_s hf
      have hf : tX16_checksLimits_2 x0 x1 h = some y := hf
      unfold tX16_checksLimits_2 at hf
      obtain ⟨k1, hf⟩ := pm_if hf
      obtain ⟨v2, e3, hf⟩ := pm_bd hf
      obtain ⟨k4, hf⟩ := pm_if hf
      by_cases c5 : (pm_I h v2 8) ≤ x1
      · have hf := pm_it hf c5
        cases hf
        exact ih.2.1 x0 0 h K0 Hx0 hi
      · have hf := pm_ie hf c5
        obtain ⟨v6, e7, hf⟩ := pm_bd hf
        obtain ⟨k8, hf⟩ := pm_if hf
        obtain ⟨u9, hf⟩ := pm_if hf
        obtain ⟨y10, e11, hf⟩ := pm_lt hf
        by_cases c12 : y10 = 1
        · have hf := pm_it hf c12
          cases hf
          exact ih.2.2.1 x0 x1 y10 h K0 Hx0 hi
        · have hf := pm_ie hf c12
          by_cases c13 : y10 = 2
          · have hf := pm_it hf c13
            cases hf
            exact ih.2.2.1 x0 x1 y10 h K0 Hx0 hi
          · have hf := pm_ie hf c13
            obtain ⟨y14, e15, hf⟩ := pm_lt hf
            cases hf
            exact ih.1 x0 y14 h K0 Hx0 hi
    refine ⟨fun x0 x1 h K0 Hx0 hf => ?_, ?_⟩
    · obtain ⟨y, hf, hi⟩ := pm_iter_s hf
      have hf : tX16_checksLimits_90 x0 x1 h = some y := hf
      unfold tX16_checksLimits_90 at hf
      obtain ⟨k16, hf⟩ := pm_if hf
      obtain ⟨v17, e18, hf⟩ := pm_bd hf
      obtain ⟨k19, hf⟩ := pm_if hf
      by_cases c20 : (pm_I h v17 17) ≤ x1
      · have hf := pm_it hf c20
        cases hf
        exact ih.2.2.2 x0 0 h K0 Hx0 hi
      · have hf := pm_ie hf c20
        obtain ⟨v21, e22, hf⟩ := pm_bd hf
        obtain ⟨k23, hf⟩ := pm_if hf
        obtain ⟨u24, hf⟩ := pm_if hf
        obtain ⟨v25, e26, hf⟩ := pm_bd hf
        obtain ⟨k27, hf⟩ := pm_if hf
        obtain ⟨u28, hf⟩ := pm_if hf
        obtain ⟨v29, e30, hf⟩ := pm_lt hf
        by_cases c31 : v29 = 0
        · have hf := pm_it hf c31
          obtain ⟨v32, e33, hf⟩ := pm_bd hf
          obtain ⟨k34, hf⟩ := pm_if hf
          obtain ⟨u35, hf⟩ := pm_if hf
          obtain ⟨v36, e37, hf⟩ := pm_bd hf
          rcases v36 with z39 | w38
          · have hf := pt_sl hf
            cases hf
            cases hi
            exact (show pr_F A h0 z39.2 ∧ A z39.1 from rgX16_stops K0 Hx0 e37)
          have K40 := (show pr_F A h0 w38 from rgX16_stops K0 Hx0 e37)
          have hf := pt_sr hf
          obtain ⟨y41, e42, hf⟩ := pm_lt hf
          cases hf
          exact ih.2.1 x0 y41 w38 K40 Hx0 hi
        · have hf := pm_ie hf c31
          obtain ⟨y43, e44, hf⟩ := pm_lt hf
          cases hf
          exact ih.2.1 x0 y43 h K0 Hx0 hi
    refine ⟨fun x0 x1 x2 h K0 Hx0 hf => ?_, ?_⟩
    · obtain ⟨y, hf, hi⟩ := pm_iter_s hf
      have hf : tX16_checksLimits_33 x0 x1 x2 h = some y := hf
      unfold tX16_checksLimits_33 at hf
      obtain ⟨k45, hf⟩ := pm_if hf
      obtain ⟨v46, e47, hf⟩ := pm_bd hf
      obtain ⟨k48, hf⟩ := pm_if hf
      obtain ⟨v49, e50, hf⟩ := pm_bd hf
      obtain ⟨k51, hf⟩ := pm_if hf
      obtain ⟨u52, hf⟩ := pm_if hf
      obtain ⟨v53, e54, hf⟩ := pm_bd hf
      obtain ⟨k55, hf⟩ := pm_if hf
      obtain ⟨u56, hf⟩ := pm_if hf
      by_cases c57 : x2 = 2
      · have hf := pm_it hf c57
        obtain ⟨v58, e59, hf⟩ := pm_lt hf
        by_cases c60 : v58 = 0
        · have hf := pm_it hf c60
          obtain ⟨v61, e62, hf⟩ := pm_bd hf
          obtain ⟨k63, hf⟩ := pm_if hf
          obtain ⟨u64, hf⟩ := pm_if hf
          obtain ⟨v65, e66, hf⟩ := pm_bd hf
          rcases v65 with z68 | w67
          · have hf := pt_sl hf
            cases hf
            cases hi
            exact (show pr_F A h0 z68.2 ∧ A z68.1 from rgX16_stops K0 Hx0 e66)
          have K69 := (show pr_F A h0 w67 from rgX16_stops K0 Hx0 e66)
          have hf := pt_sr hf
          obtain ⟨y70, e71, hf⟩ := pm_lt hf
          cases hf
          exact ih.1 x0 y70 w67 K69 Hx0 hi
        · have hf := pm_ie hf c60
          obtain ⟨y72, e73, hf⟩ := pm_lt hf
          cases hf
          exact ih.1 x0 y72 h K0 Hx0 hi
      · have hf := pm_ie hf c57
        obtain ⟨v74, e75, hf⟩ := pm_lt hf
        by_cases c76 : v74 = 0
        · have hf := pm_it hf c76
          obtain ⟨v77, e78, hf⟩ := pm_bd hf
          obtain ⟨k79, hf⟩ := pm_if hf
          obtain ⟨u80, hf⟩ := pm_if hf
          obtain ⟨v81, e82, hf⟩ := pm_bd hf
          rcases v81 with z84 | w83
          · have hf := pt_sl hf
            cases hf
            cases hi
            exact (show pr_F A h0 z84.2 ∧ A z84.1 from rgX16_stops K0 Hx0 e82)
          have K85 := (show pr_F A h0 w83 from rgX16_stops K0 Hx0 e82)
          have hf := pt_sr hf
          obtain ⟨y86, e87, hf⟩ := pm_lt hf
          cases hf
          exact ih.1 x0 y86 w83 K85 Hx0 hi
        · have hf := pm_ie hf c76
          obtain ⟨y88, e89, hf⟩ := pm_lt hf
          cases hf
          exact ih.1 x0 y88 h K0 Hx0 hi
    refine fun x0 x1 h K0 Hx0 hf => ?_
    obtain ⟨y, hf, hi⟩ := pm_iter_s hf
    have hf : tX16_checksLimits_149 x0 x1 h = some y := hf
    unfold tX16_checksLimits_149 at hf
    obtain ⟨k90, hf⟩ := pm_if hf
    obtain ⟨v91, e92, hf⟩ := pm_bd hf
    obtain ⟨k93, hf⟩ := pm_if hf
    by_cases c94 : (pm_I h v91 21) ≤ x1
    · have hf := pm_it hf c94
      cases hf
      cases hi
      exact K0
    · have hf := pm_ie hf c94
      obtain ⟨v95, e96, hf⟩ := pm_bd hf
      obtain ⟨k97, hf⟩ := pm_if hf
      obtain ⟨u98, hf⟩ := pm_if hf
      obtain ⟨v99, e100, hf⟩ := pm_bd hf
      obtain ⟨k101, hf⟩ := pm_if hf
      obtain ⟨u102, hf⟩ := pm_if hf
      obtain ⟨v103, e104, hf⟩ := pm_lt hf
      by_cases c105 : v103 = 0
      · have hf := pm_it hf c105
        obtain ⟨v106, e107, hf⟩ := pm_bd hf
        obtain ⟨k108, hf⟩ := pm_if hf
        obtain ⟨u109, hf⟩ := pm_if hf
        obtain ⟨v110, e111, hf⟩ := pm_bd hf
        rcases v110 with z113 | w112
        · have hf := pt_sl hf
          cases hf
          cases hi
          exact (show pr_F A h0 z113.2 ∧ A z113.1 from rgX16_stops K0 Hx0 e111)
        have K114 := (show pr_F A h0 w112 from rgX16_stops K0 Hx0 e111)
        have hf := pt_sr hf
        obtain ⟨y115, e116, hf⟩ := pm_lt hf
        cases hf
        exact ih.2.2.2 x0 y115 w112 K114 Hx0 hi
      · have hf := pm_ie hf c105
        obtain ⟨y117, e118, hf⟩ := pm_lt hf
        cases hf
        exact ih.2.2.2 x0 y117 h K0 Hx0 hi
set_option maxHeartbeats 4000000 in
set_option maxRecDepth 100000 in
theorem rgX16_checksLimits {A : Nat → Prop} {h0 h : pm_H} (K0 : pr_F A h0 h) {a0 : Nat} (Ha0 : A a0) {r : ((Nat × pm_H) ⊕ pm_H)} (hf : fX16_checksLimits h a0 = some r) : pt_RV A h0 r := by
  unfold fX16_checksLimits at hf
  obtain ⟨n, hn⟩ := pm_lim_iter hf
  exact (rlX16_checksLimits n).1 a0 0 h K0 Ha0 hn
set_option maxHeartbeats 4000000 in
set_option maxRecDepth 100000 in
theorem rlX16_checksTypes {A : Nat → Prop} {h0 : pm_H} {r : ((Nat × pm_H) ⊕ pm_H)} : ∀ n : Nat, (∀ (x0 : Nat) (x1 : Int32) (h : pm_H), pr_F A h0 h → A x0 → pm_iter sX16_checksTypes n (.inl (x0, x1, h)) = some r → pt_RV A h0 r) ∧ (∀ (x0 : Nat) (x1 : Int32) (h : pm_H), pr_F A h0 h → A x0 → pm_iter sX16_checksTypes n (.inr (x0, x1, h)) = some r → pt_RV A h0 r) := by
  intro n
  induction n with
  | zero => exact ⟨fun _ _ _ _ _ hf => (by cases hf), fun _ _ _ _ _ hf => (by cases hf)⟩
  | succ n ih =>
    refine ⟨fun x0 x1 h K0 Hx0 hf => ?_, ?_⟩
    · obtain ⟨y, hf, hi⟩ := pm_iter_s hf
      have hf : tX16_checksTypes_2 x0 x1 h = some y := hf
      unfold tX16_checksTypes_2 at hf
      obtain ⟨k1, hf⟩ := pm_if hf
      obtain ⟨v2, e3, hf⟩ := pm_bd hf
      obtain ⟨k4, hf⟩ := pm_if hf
      by_cases c5 : (pm_I h v2 8) ≤ x1
      · have hf := pm_it hf c5
        cases hf
        exact ih.2 x0 0 h K0 Hx0 hi
      · have hf := pm_ie hf c5
        obtain ⟨v6, e7, hf⟩ := pm_bd hf
        obtain ⟨k8, hf⟩ := pm_if hf
        obtain ⟨u9, hf⟩ := pm_if hf
        by_cases c10 : (pm_I h v6 x1.toNatClampNeg) = 0
        · have hf := pm_it hf c10
          obtain ⟨v11, e12, hf⟩ := pm_bd hf
          obtain ⟨k13, hf⟩ := pm_if hf
          obtain ⟨u14, hf⟩ := pm_if hf
          by_cases c15 : (pm_L h v11 x1.toNatClampNeg) < ((pm_I h v2 4).toInt64)
          · have hf := pm_it hf c15
            obtain ⟨y16, e17, hf⟩ := pm_lt hf
            cases hf
            exact ih.1 x0 y16 h K0 Hx0 hi
          · have hf := pm_ie hf c15
            obtain ⟨v18, e19, hf⟩ := pm_bd hf
            obtain ⟨k20, hf⟩ := pm_if hf
            obtain ⟨u21, hf⟩ := pm_if hf
            obtain ⟨v22, e23, hf⟩ := pm_bd hf
            rcases v22 with z25 | w24
            · have hf := pt_sl hf
              cases hf
              cases hi
              exact (show pr_F A h0 z25.2 ∧ A z25.1 from rgX16_stops K0 Hx0 e23)
            have K26 := (show pr_F A h0 w24 from rgX16_stops K0 Hx0 e23)
            have hf := pt_sr hf
            obtain ⟨y27, e28, hf⟩ := pm_lt hf
            cases hf
            exact ih.1 x0 y27 w24 K26 Hx0 hi
        · have hf := pm_ie hf c10
          obtain ⟨y29, e30, hf⟩ := pm_lt hf
          cases hf
          exact ih.1 x0 y29 h K0 Hx0 hi
    refine fun x0 x1 h K0 Hx0 hf => ?_
    obtain ⟨y, hf, hi⟩ := pm_iter_s hf
    have hf : tX16_checksTypes_69 x0 x1 h = some y := hf
    unfold tX16_checksTypes_69 at hf
    obtain ⟨k31, hf⟩ := pm_if hf
    obtain ⟨v32, e33, hf⟩ := pm_bd hf
    obtain ⟨k34, hf⟩ := pm_if hf
    by_cases c35 : (pm_I h v32 15) ≤ x1
    · have hf := pm_it hf c35
      cases hf
      cases hi
      exact K0
    · have hf := pm_ie hf c35
      obtain ⟨v36, e37, hf⟩ := pm_bd hf
      obtain ⟨k38, hf⟩ := pm_if hf
      obtain ⟨u39, hf⟩ := pm_if hf
      by_cases c40 : (pm_L h v36 x1.toNatClampNeg) < ((pm_I h v32 4).toInt64)
      · have hf := pm_it hf c40
        obtain ⟨y41, e42, hf⟩ := pm_lt hf
        cases hf
        exact ih.2 x0 y41 h K0 Hx0 hi
      · have hf := pm_ie hf c40
        obtain ⟨v43, e44, hf⟩ := pm_bd hf
        obtain ⟨k45, hf⟩ := pm_if hf
        obtain ⟨u46, hf⟩ := pm_if hf
        obtain ⟨v47, e48, hf⟩ := pm_bd hf
        rcases v47 with z50 | w49
        · have hf := pt_sl hf
          cases hf
          cases hi
          exact (show pr_F A h0 z50.2 ∧ A z50.1 from rgX16_stops K0 Hx0 e48)
        have K51 := (show pr_F A h0 w49 from rgX16_stops K0 Hx0 e48)
        have hf := pt_sr hf
        obtain ⟨y52, e53, hf⟩ := pm_lt hf
        cases hf
        exact ih.2 x0 y52 w49 K51 Hx0 hi
set_option maxHeartbeats 4000000 in
set_option maxRecDepth 100000 in
theorem rgX16_checksTypes {A : Nat → Prop} {h0 h : pm_H} (K0 : pr_F A h0 h) {a0 : Nat} (Ha0 : A a0) {r : ((Nat × pm_H) ⊕ pm_H)} (hf : fX16_checksTypes h a0 = some r) : pt_RV A h0 r := by
  unfold fX16_checksTypes at hf
  obtain ⟨n, hn⟩ := pm_lim_iter hf
  exact (rlX16_checksTypes n).1 a0 0 h K0 Ha0 hn
set_option maxHeartbeats 4000000 in
set_option maxRecDepth 100000 in
theorem rlX16_constantly {A : Nat → Prop} {h0 : pm_H} {r : ((Nat × pm_H) ⊕ pm_H)} : ∀ n : Nat, (∀ (x0 : Nat) (x1 : Int32) (x2 : Int32) (x3 : Int32) (x4 : Int32) (x5 : Int32) (h : pm_H), pr_F A h0 h → A x0 → pm_iter sX16_constantly n (.inl (x0, x1, x2, x3, x4, x5, h)) = some r → pt_RV A h0 r) ∧ (∀ (x0 : Nat) (x2 : Int32) (x3 : Int32) (x4 : Int32) (x5 : Int32) (x6 : Int32) (h : pm_H), pr_F A h0 h → A x0 → pm_iter sX16_constantly n (.inr (x0, x2, x3, x4, x5, x6, h)) = some r → pt_RV A h0 r) := by
  intro n
  induction n with
  | zero => exact ⟨fun _ _ _ _ _ _ _ _ _ hf => (by cases hf), fun _ _ _ _ _ _ _ _ _ hf => (by cases hf)⟩
  | succ n ih =>
    refine ⟨fun x0 x1 x2 x3 x4 x5 h K0 Hx0 hf => ?_, ?_⟩
    · obtain ⟨y, hf, hi⟩ := pm_iter_s hf
      have hf : tX16_constantly_8 x0 x1 x2 x3 x4 x5 h = some y := hf
      unfold tX16_constantly_8 at hf
      obtain ⟨k1, hf⟩ := pm_if hf
      obtain ⟨v2, e3, hf⟩ := pm_bd hf
      obtain ⟨k4, hf⟩ := pm_if hf
      obtain ⟨v5, e6, hf⟩ := pm_bd hf
      by_cases c7 : v5 = 11
      · have hf := pm_it hf c7
        cases hf
        exact ih.2 x0 x2 x1 x4 x5 x3 h K0 Hx0 hi
      · have hf := pm_ie hf c7
        obtain ⟨v8, e9, hf⟩ := pm_bd hf
        have K10 := rgX16_constantType K0 Hx0 e9
        by_cases c11 : v8.1 = 0
        · have hf := pm_it hf c11
          obtain ⟨k12, hf⟩ := pm_if hf
          obtain ⟨v13, e14, hf⟩ := pm_bd hf
          rcases v13 with z16 | w15
          · have hf := pt_sl hf
            cases hf
            cases hi
            exact (show pr_F A h0 z16.2 ∧ A z16.1 from rgX16_stops K10 Hx0 e14)
          have K17 := (show pr_F A h0 w15 from rgX16_stops K10 Hx0 e14)
          have hf := pt_sr hf
          obtain ⟨y18, e19, hf⟩ := pm_lt hf
          obtain ⟨k20, hf⟩ := pm_if hf
          obtain ⟨v21, e22, hf⟩ := pm_bd hf
          have K23 := rgX16_behind K17 Hx0 e22
          cases hf
          exact ih.1 x0 x1 x2 v21.1 y18 v8.1 v21.2 K23 Hx0 hi
        · have hf := pm_ie hf c11
          obtain ⟨y24, e25, hf⟩ := pm_lt hf
          obtain ⟨k26, hf⟩ := pm_if hf
          obtain ⟨v27, e28, hf⟩ := pm_bd hf
          have K29 := rgX16_behind K10 Hx0 e28
          cases hf
          exact ih.1 x0 x1 x2 v27.1 y24 v8.1 v27.2 K29 Hx0 hi
    refine fun x0 x2 x3 x4 x5 x6 h K0 Hx0 hf => ?_
    obtain ⟨y, hf, hi⟩ := pm_iter_s hf
    have hf : tX16_constantly_57 x0 x2 x3 x4 x5 x6 h = some y := hf
    unfold tX16_constantly_57 at hf
    by_cases c30 : x6 ≤ x3
    · have hf := pm_it hf c30
      by_cases c31 : x4 = 1
      · have hf := pm_it hf c31
        by_cases c32 : x5 = x2
        · have hf := pm_it hf c32
          obtain ⟨y33, e34, hf⟩ := pm_lt hf
          obtain ⟨k35, hf⟩ := pm_if hf
          cases hf
          cases hi
          exact (pr_sI K0 Hx0)
        · have hf := pm_ie hf c32
          obtain ⟨k36, hf⟩ := pm_if hf
          obtain ⟨v37, e38, hf⟩ := pm_bd hf
          rcases v37 with z40 | w39
          · have hf := pt_sl hf
            cases hf
            cases hi
            exact (show pr_F A h0 z40.2 ∧ A z40.1 from rgX16_stops K0 Hx0 e38)
          have K41 := (show pr_F A h0 w39 from rgX16_stops K0 Hx0 e38)
          have hf := pt_sr hf
          obtain ⟨y42, e43, hf⟩ := pm_lt hf
          obtain ⟨k44, hf⟩ := pm_if hf
          cases hf
          cases hi
          exact (pr_sI K41 Hx0)
      · have hf := pm_ie hf c31
        obtain ⟨k45, hf⟩ := pm_if hf
        obtain ⟨v46, e47, hf⟩ := pm_bd hf
        rcases v46 with z49 | w48
        · have hf := pt_sl hf
          cases hf
          cases hi
          exact (show pr_F A h0 z49.2 ∧ A z49.1 from rgX16_stops K0 Hx0 e47)
        have K50 := (show pr_F A h0 w48 from rgX16_stops K0 Hx0 e47)
        have hf := pt_sr hf
        obtain ⟨y51, e52, hf⟩ := pm_lt hf
        obtain ⟨k53, hf⟩ := pm_if hf
        cases hf
        cases hi
        exact (pr_sI K50 Hx0)
    · have hf := pm_ie hf c30
      obtain ⟨y54, e55, hf⟩ := pm_lt hf
      obtain ⟨k56, hf⟩ := pm_if hf
      obtain ⟨v57, e58, hf⟩ := pm_bd hf
      obtain ⟨k59, hf⟩ := pm_if hf
      obtain ⟨v60, e61, hf⟩ := pm_bd hf
      by_cases c62 : v60 = 210
      · have hf := pm_it hf c62
        obtain ⟨v63, e64, hf⟩ := pm_bd hf
        have K65 := rgX16_word (pr_sI K0 Hx0) Hx0 e64
        obtain ⟨k66, hf⟩ := pm_if hf
        obtain ⟨v67, e68, hf⟩ := pm_bd hf
        obtain ⟨k69, hf⟩ := pm_if hf
        obtain ⟨v70, e71, hf⟩ := pm_bd hf
        by_cases c72 : v63.1 < v70.toInt64
        · have hf := pm_it hf c72
          obtain ⟨v73, e74, hf⟩ := pm_bd hf
          have K75 := rgX16_behind K65 Hx0 e74
          cases hf
          exact ih.2 x0 x2 v73.1 x4 x5 x6 v73.2 K75 Hx0 hi
        · have hf := pm_ie hf c72
          obtain ⟨v76, e77, hf⟩ := pm_bd hf
          rcases v76 with z79 | w78
          · have hf := pt_sl hf
            cases hf
            cases hi
            exact (show pr_F A h0 z79.2 ∧ A z79.1 from rgX16_stops K65 Hx0 e77)
          have K80 := (show pr_F A h0 w78 from rgX16_stops K65 Hx0 e77)
          have hf := pt_sr hf
          obtain ⟨k81, hf⟩ := pm_if hf
          obtain ⟨v82, e83, hf⟩ := pm_bd hf
          have K84 := rgX16_behind K80 Hx0 e83
          cases hf
          exact ih.2 x0 x2 v82.1 x4 x5 x6 v82.2 K84 Hx0 hi
      · have hf := pm_ie hf c62
        obtain ⟨v85, e86, hf⟩ := pm_bd hf
        have K87 := rgX16_behind (pr_sI K0 Hx0) Hx0 e86
        cases hf
        exact ih.2 x0 x2 v85.1 x4 x5 x6 v85.2 K87 Hx0 hi
set_option maxHeartbeats 4000000 in
set_option maxRecDepth 100000 in
theorem rgX16_constantly {A : Nat → Prop} {h0 h : pm_H} (K0 : pr_F A h0 h) {a0 : Nat} {p1 : Int32} {p2 : Int32} (Ha0 : A a0) {r : ((Nat × pm_H) ⊕ pm_H)} (hf : fX16_constantly h a0 p1 p2 = some r) : pt_RV A h0 r := by
  unfold fX16_constantly at hf
  obtain ⟨n, hn⟩ := pm_lim_iter hf
  exact (rlX16_constantly n).1 a0 p1 p2 p1 0 0 h K0 Ha0 hn
set_option maxHeartbeats 4000000 in
set_option maxRecDepth 100000 in
theorem rgX16_next {A : Nat → Prop} {h0 h : pm_H} (K0 : pr_F A h0 h) {a0 : Nat} (Ha0 : A a0) {r : ((Nat × pm_H) ⊕ (Int32 × pm_H))} (hf : fX16_next h a0 = some r) : pt_RI A h0 r := by
  unfold fX16_next at hf
  obtain ⟨k1, hf⟩ := pm_if hf
  by_cases c2 : (pm_I h a0 11) < (pm_I h a0 12)
  · have hf := pm_it hf c2
    obtain ⟨y3, e4, hf⟩ := pm_lt hf
    obtain ⟨v5, e6, hf⟩ := pm_bd hf
    obtain ⟨k7, hf⟩ := pm_if hf
    obtain ⟨v8, e9, hf⟩ := pm_bd hf
    cases hf
    exact (pr_sI K0 Ha0)
  · have hf := pm_ie hf c2
    obtain ⟨v10, e11, hf⟩ := pm_bd hf
    rcases v10 with z13 | w12
    · have hf := pt_kl hf
      cases hf
      exact (show pr_F A h0 z13.2 ∧ A z13.1 from rgX16_stops K0 Ha0 e11)
    have K14 := (show pr_F A h0 w12 from rgX16_stops K0 Ha0 e11)
    have hf := pt_kr hf
    obtain ⟨k15, hf⟩ := pm_if hf
    obtain ⟨y16, e17, hf⟩ := pm_lt hf
    obtain ⟨v18, e19, hf⟩ := pm_bd hf
    obtain ⟨k20, hf⟩ := pm_if hf
    obtain ⟨v21, e22, hf⟩ := pm_bd hf
    cases hf
    exact (pr_sI K14 Ha0)
set_option maxHeartbeats 4000000 in
set_option maxRecDepth 100000 in
theorem rlX16_number {A : Nat → Prop} {h0 : pm_H} {r : ((Nat × pm_H) ⊕ (Int64 × pm_H))} : ∀ n : Nat, (∀ (x0 : Nat) (x1 : Int64) (x3 : Int32) (h : pm_H), pr_F A h0 h → A x0 → pm_iter sX16_number n (.inl (x0, x1, x3, h)) = some r → pt_RJ A h0 r) ∧ (∀ (x0 : Nat) (x1 : Int64) (x3 : Int32) (x4 : Int32) (h : pm_H), pr_F A h0 h → A x0 → pm_iter sX16_number n (.inr (x0, x1, x3, x4, h)) = some r → pt_RJ A h0 r) := by
  intro n
  induction n with
  | zero => exact ⟨fun _ _ _ _ _ _ hf => (by cases hf), fun _ _ _ _ _ _ _ hf => (by cases hf)⟩
  | succ n ih =>
    refine ⟨fun x0 x1 x3 h K0 Hx0 hf => ?_, ?_⟩
    · obtain ⟨y, hf, hi⟩ := pm_iter_s hf
      have hf : tX16_number_4 x0 x1 x3 h = some y := hf
      unfold tX16_number_4 at hf
      by_cases c1 : 5 ≤ x3
      · have hf := pm_it hf c1
        cases hf
        cases hi
        exact K0
      · have hf := pm_ie hf c1
        obtain ⟨k2, hf⟩ := pm_if hf
        obtain ⟨v3, e4, hf⟩ := pm_bd hf
        rcases v3 with z6 | w5
        · have hf := pt_sl hf
          cases hf
          cases hi
          exact (show pr_F A h0 z6.2 ∧ A z6.1 from rgX16_next K0 Hx0 e4)
        have K7 := (show pr_F A h0 w5.2 from rgX16_next K0 Hx0 e4)
        have hf := pt_sr hf
        by_cases c8 : x3 = 4
        · have hf := pm_it hf c8
          by_cases c9 : w5.1 ≤ 15
          · have hf := pm_it hf c9
            cases hf
            exact ih.2 x0 x1 x3 w5.1 w5.2 K7 Hx0 hi
          · have hf := pm_ie hf c9
            obtain ⟨k10, hf⟩ := pm_if hf
            obtain ⟨v11, e12, hf⟩ := pm_bd hf
            rcases v11 with z14 | w13
            · have hf := pt_sl hf
              cases hf
              cases hi
              exact (show pr_F A h0 z14.2 ∧ A z14.1 from rgX16_stops K7 Hx0 e12)
            have K15 := (show pr_F A h0 w13 from rgX16_stops K7 Hx0 e12)
            have hf := pt_sr hf
            cases hf
            exact ih.2 x0 x1 x3 w5.1 w13 K15 Hx0 hi
        · have hf := pm_ie hf c8
          cases hf
          exact ih.2 x0 x1 x3 w5.1 w5.2 K7 Hx0 hi
    refine fun x0 x1 x3 x4 h K0 Hx0 hf => ?_
    obtain ⟨y, hf, hi⟩ := pm_iter_s hf
    have hf : tX16_number_38 x0 x1 x3 x4 h = some y := hf
    unfold tX16_number_38 at hf
    obtain ⟨y16, e17, hf⟩ := pm_lt hf
    by_cases c18 : 128 ≤ x4
    · have hf := pm_it hf c18
      obtain ⟨y19, e20, hf⟩ := pm_lt hf
      cases hf
      exact ih.1 x0 y16 y19 h K0 Hx0 hi
    · have hf := pm_ie hf c18
      cases hf
      cases hi
      exact K0
set_option maxHeartbeats 4000000 in
set_option maxRecDepth 100000 in
theorem rgX16_number {A : Nat → Prop} {h0 h : pm_H} (K0 : pr_F A h0 h) {a0 : Nat} (Ha0 : A a0) {r : ((Nat × pm_H) ⊕ (Int64 × pm_H))} (hf : fX16_number h a0 = some r) : pt_RJ A h0 r := by
  unfold fX16_number at hf
  obtain ⟨n, hn⟩ := pm_lim_iter hf
  exact (rlX16_number n).1 a0 0 0 h K0 Ha0 hn
set_option maxHeartbeats 4000000 in
set_option maxRecDepth 100000 in
theorem rgX16_put {A : Nat → Prop} {h0 h : pm_H} (K0 : pr_F A h0 h) {a0 : Nat} {p1 : Int32} (Ha0 : A a0) {r : ((Nat × pm_H) ⊕ pm_H)} (hf : fX16_put h a0 p1 = some r) : pt_RV A h0 r := by
  unfold fX16_put at hf
  obtain ⟨k1, hf⟩ := pm_if hf
  by_cases c2 : (pm_I h a0 23) = 1000
  · have hf := pm_it hf c2
    obtain ⟨v3, e4, hf⟩ := pm_bd hf
    rcases v3 with z6 | w5
    · have hf := pt_kl hf
      cases hf
      exact (show pr_F A h0 z6.2 ∧ A z6.1 from rgX16_stops K0 Ha0 e4)
    have K7 := (show pr_F A h0 w5 from rgX16_stops K0 Ha0 e4)
    have hf := pt_kr hf
    obtain ⟨k8, hf⟩ := pm_if hf
    obtain ⟨v9, e10, hf⟩ := pm_bd hf
    obtain ⟨k11, hf⟩ := pm_if hf
    obtain ⟨u12, hf⟩ := pm_if hf
    obtain ⟨y13, e14, hf⟩ := pm_lt hf
    cases hf
    exact (pr_sI (pr_sI K7 (pr_c K7 Ha0 e10)) Ha0)
  · have hf := pm_ie hf c2
    obtain ⟨v15, e16, hf⟩ := pm_bd hf
    obtain ⟨k17, hf⟩ := pm_if hf
    obtain ⟨u18, hf⟩ := pm_if hf
    obtain ⟨y19, e20, hf⟩ := pm_lt hf
    cases hf
    exact (pr_sI (pr_sI K0 (pr_c K0 Ha0 e16)) Ha0)
set_option maxHeartbeats 4000000 in
set_option maxRecDepth 100000 in
theorem rlX16_putParameters {A : Nat → Prop} {h0 : pm_H} {r : ((Nat × pm_H) ⊕ pm_H)} : ∀ n : Nat, (∀ (x0 : Nat) (x1 : Int64) (x3 : Int32) (h : pm_H), pr_F A h0 h → A x0 → pm_iter sX16_putParameters n (x0, x1, x3, h) = some r → pt_RV A h0 r) := by
  intro n
  induction n with
  | zero => exact fun _ _ _ _ _ _ hf => (by cases hf)
  | succ n ih =>
    refine fun x0 x1 x3 h K0 Hx0 hf => ?_
    obtain ⟨y, hf, hi⟩ := pm_iter_s hf
    have hf : tX16_putParameters_2 x0 x1 x3 h = some y := hf
    unfold tX16_putParameters_2 at hf
    obtain ⟨k1, hf⟩ := pm_if hf
    obtain ⟨v2, e3, hf⟩ := pm_bd hf
    by_cases c4 : v2 ≤ x3
    · have hf := pm_it hf c4
      cases hf
      cases hi
      exact K0
    · have hf := pm_ie hf c4
      obtain ⟨v5, e6, hf⟩ := pm_bd hf
      obtain ⟨v7, e8, hf⟩ := pm_bd hf
      rcases v7 with z10 | w9
      · have hf := pt_sl hf
        cases hf
        cases hi
        exact (show pr_F A h0 z10.2 ∧ A z10.1 from rgX16_put K0 Hx0 e8)
      have K11 := (show pr_F A h0 w9 from rgX16_put K0 Hx0 e8)
      have hf := pt_sr hf
      obtain ⟨y12, e13, hf⟩ := pm_lt hf
      cases hf
      exact ih x0 x1 y12 w9 K11 Hx0 hi
set_option maxHeartbeats 4000000 in
set_option maxRecDepth 100000 in
theorem rgX16_putParameters {A : Nat → Prop} {h0 h : pm_H} (K0 : pr_F A h0 h) {a0 : Nat} {p1 : Int64} (Ha0 : A a0) {r : ((Nat × pm_H) ⊕ pm_H)} (hf : fX16_putParameters h a0 p1 = some r) : pt_RV A h0 r := by
  unfold fX16_putParameters at hf
  obtain ⟨n, hn⟩ := pm_lim_iter hf
  exact (rlX16_putParameters n) a0 p1 0 h K0 Ha0 hn
set_option maxHeartbeats 4000000 in
set_option maxRecDepth 100000 in
theorem rlX16_putResults {A : Nat → Prop} {h0 : pm_H} {r : ((Nat × pm_H) ⊕ pm_H)} : ∀ n : Nat, (∀ (x0 : Nat) (x1 : Int64) (x3 : Int32) (h : pm_H), pr_F A h0 h → A x0 → pm_iter sX16_putResults n (x0, x1, x3, h) = some r → pt_RV A h0 r) := by
  intro n
  induction n with
  | zero => exact fun _ _ _ _ _ _ hf => (by cases hf)
  | succ n ih =>
    refine fun x0 x1 x3 h K0 Hx0 hf => ?_
    obtain ⟨y, hf, hi⟩ := pm_iter_s hf
    have hf : tX16_putResults_2 x0 x1 x3 h = some y := hf
    unfold tX16_putResults_2 at hf
    obtain ⟨k1, hf⟩ := pm_if hf
    obtain ⟨v2, e3, hf⟩ := pm_bd hf
    by_cases c4 : v2 ≤ x3
    · have hf := pm_it hf c4
      cases hf
      cases hi
      exact K0
    · have hf := pm_ie hf c4
      obtain ⟨v5, e6, hf⟩ := pm_bd hf
      obtain ⟨v7, e8, hf⟩ := pm_bd hf
      rcases v7 with z10 | w9
      · have hf := pt_sl hf
        cases hf
        cases hi
        exact (show pr_F A h0 z10.2 ∧ A z10.1 from rgX16_put K0 Hx0 e8)
      have K11 := (show pr_F A h0 w9 from rgX16_put K0 Hx0 e8)
      have hf := pt_sr hf
      obtain ⟨y12, e13, hf⟩ := pm_lt hf
      cases hf
      exact ih x0 x1 y12 w9 K11 Hx0 hi
set_option maxHeartbeats 4000000 in
set_option maxRecDepth 100000 in
theorem rgX16_putResults {A : Nat → Prop} {h0 h : pm_H} (K0 : pr_F A h0 h) {a0 : Nat} {p1 : Int64} (Ha0 : A a0) {r : ((Nat × pm_H) ⊕ pm_H)} (hf : fX16_putResults h a0 p1 = some r) : pt_RV A h0 r := by
  unfold fX16_putResults at hf
  obtain ⟨n, hn⟩ := pm_lim_iter hf
  exact (rlX16_putResults n) a0 p1 0 h K0 Ha0 hn
set_option maxHeartbeats 4000000 in
set_option maxRecDepth 100000 in
theorem rlX16_readsFunctions {A : Nat → Prop} {h0 : pm_H} {r : ((Nat × pm_H) ⊕ pm_H)} : ∀ n : Nat, (∀ (x0 : Nat) (x1 : Int64) (x3 : Int64) (h : pm_H), pr_F A h0 h → A x0 → pm_iter sX16_readsFunctions n (x0, x1, x3, h) = some r → pt_RV A h0 r) := by
  intro n
  induction n with
  | zero => exact fun _ _ _ _ _ _ hf => (by cases hf)
  | succ n ih =>
    refine fun x0 x1 x3 h K0 Hx0 hf => ?_
    obtain ⟨y, hf, hi⟩ := pm_iter_s hf
    have hf : tX16_readsFunctions_27 x0 x1 x3 h = some y := hf
    unfold tX16_readsFunctions_27 at hf
    by_cases c15 : x1 ≤ x3
    · have hf := pm_it hf c15
      cases hf
      cases hi
      exact K0
    · have hf := pm_ie hf c15
      obtain ⟨k16, hf⟩ := pm_if hf
      obtain ⟨v17, e18, hf⟩ := pm_bd hf
      rcases v17 with z20 | w19
      · have hf := pt_sl hf
        cases hf
        cases hi
        exact (show pr_F A h0 z20.2 ∧ A z20.1 from rgX16_number K0 Hx0 e18)
      have K21 := (show pr_F A h0 w19.2 from rgX16_number K0 Hx0 e18)
      have hf := pt_sr hf
      by_cases c22 : 64 ≤ x3
      · have hf := pm_it hf c22
        obtain ⟨y23, e24, hf⟩ := pm_lt hf
        cases hf
        exact ih x0 x1 y23 w19.2 K21 Hx0 hi
      · have hf := pm_ie hf c22
        obtain ⟨k25, hf⟩ := pm_if hf
        obtain ⟨v26, e27, hf⟩ := pm_bd hf
        obtain ⟨k28, hf⟩ := pm_if hf
        obtain ⟨v29, e30, hf⟩ := pm_bd hf
        obtain ⟨k31, hf⟩ := pm_if hf
        obtain ⟨u32, hf⟩ := pm_if hf
        obtain ⟨y33, e34, hf⟩ := pm_lt hf
        cases hf
        exact ih x0 x1 y33 (pm_setL w19.2 v29 x3.toInt32.toNatClampNeg w19.1) (pr_sL K21 (pr_c K21 (pr_c K21 Hx0 e27) e30)) Hx0 hi
set_option maxHeartbeats 4000000 in
set_option maxRecDepth 100000 in
theorem rgX16_readsFunctions {A : Nat → Prop} {h0 h : pm_H} (K0 : pr_F A h0 h) {a0 : Nat} (Ha0 : A a0) {r : ((Nat × pm_H) ⊕ pm_H)} (hf : fX16_readsFunctions h a0 = some r) : pt_RV A h0 r := by
  unfold fX16_readsFunctions at hf
  obtain ⟨k1, hf⟩ := pm_if hf
  obtain ⟨v2, e3, hf⟩ := pm_bd hf
  rcases v2 with z5 | w4
  · have hf := pt_kl hf
    cases hf
    exact (show pr_F A h0 z5.2 ∧ A z5.1 from rgX16_number K0 Ha0 e3)
  have K6 := (show pr_F A h0 w4.2 from rgX16_number K0 Ha0 e3)
  have hf := pt_kr hf
  obtain ⟨k7, hf⟩ := pm_if hf
  obtain ⟨v8, e9, hf⟩ := pm_bd hf
  obtain ⟨k10, hf⟩ := pm_if hf
  obtain ⟨v11, e12, hf⟩ := pm_bd hf
  have K13 := rgX16_kept (pr_sL K6 (pr_c K6 Ha0 e9)) Ha0 e12
  obtain ⟨k14, hf⟩ := pm_if hf
  obtain ⟨n, hn⟩ := pm_lim_iter hf
  exact (rlX16_readsFunctions n) a0 w4.1 0 (pm_setI v11.2 v8 15 v11.1) (pr_sI K13 (pr_c K6 Ha0 e9)) Ha0 hn
set_option maxHeartbeats 4000000 in
set_option maxRecDepth 100000 in
theorem rgX16_referenceType {A : Nat → Prop} {h0 h : pm_H} (K0 : pr_F A h0 h) {a0 : Nat} (Ha0 : A a0) {r : ((Nat × pm_H) ⊕ (Int32 × pm_H))} (hf : fX16_referenceType h a0 = some r) : pt_RI A h0 r := by
  unfold fX16_referenceType at hf
  obtain ⟨k1, hf⟩ := pm_if hf
  obtain ⟨v2, e3, hf⟩ := pm_bd hf
  rcases v2 with z5 | w4
  · have hf := pt_kl hf
    cases hf
    exact (show pr_F A h0 z5.2 ∧ A z5.1 from rgX16_next K0 Ha0 e3)
  have K6 := (show pr_F A h0 w4.2 from rgX16_next K0 Ha0 e3)
  have hf := pt_kr hf
  obtain ⟨v7, e8, hf⟩ := pm_lt hf
  by_cases c9 : v7 = 0
  · have hf := pm_it hf c9
    obtain ⟨k10, hf⟩ := pm_if hf
    obtain ⟨v11, e12, hf⟩ := pm_bd hf
    rcases v11 with z14 | w13
    · have hf := pt_kl hf
      cases hf
      exact (show pr_F A h0 z14.2 ∧ A z14.1 from rgX16_stops K6 Ha0 e12)
    have K15 := (show pr_F A h0 w13 from rgX16_stops K6 Ha0 e12)
    have hf := pt_kr hf
    cases hf
    exact K15
  · have hf := pm_ie hf c9
    cases hf
    exact K6
set_option maxHeartbeats 4000000 in
set_option maxRecDepth 100000 in
theorem rgX16_selects_b53 {A : Nat → Prop} {h0 h : pm_H} (K0 : pr_F A h0 h) {x0 : Nat} {x1 : Int32} {x2 : Int32} {s0 : Int32} (Hx0 : A x0) {r : ((Nat × pm_H) ⊕ pm_H)} (hf : fX16_selects_b53 h x0 x1 x2 s0 = some r) : pt_RV A h0 r := by
  unfold fX16_selects_b53 at hf
  by_cases c28 : s0 = 0
  · have hf := pm_it hf c28
    obtain ⟨k29, hf⟩ := pm_if hf
    obtain ⟨v30, e31, hf⟩ := pm_bd hf
    rcases v30 with z33 | w32
    · have hf := pt_kl hf
      cases hf
      exact (show pr_F A h0 z33.2 ∧ A z33.1 from rgX16_stops K0 Hx0 e31)
    have K34 := (show pr_F A h0 w32 from rgX16_stops K0 Hx0 e31)
    have hf := pt_kr hf
    by_cases c35 : x1 = (-1)
    · have hf := pm_it hf c35
      obtain ⟨k36, hf⟩ := pm_if hf
      obtain ⟨v37, e38, hf⟩ := pm_bd hf
      rcases v37 with z40 | w39
      · have hf := pt_kl hf
        cases hf
        exact (show pr_F A h0 z40.2 ∧ A z40.1 from rgX16_put K34 Hx0 e38)
      have K41 := (show pr_F A h0 w39 from rgX16_put K34 Hx0 e38)
      have hf := pt_kr hf
      cases hf
      exact K41
    · have hf := pm_ie hf c35
      obtain ⟨k42, hf⟩ := pm_if hf
      obtain ⟨v43, e44, hf⟩ := pm_bd hf
      rcases v43 with z46 | w45
      · have hf := pt_kl hf
        cases hf
        exact (show pr_F A h0 z46.2 ∧ A z46.1 from rgX16_put K34 Hx0 e44)
      have K47 := (show pr_F A h0 w45 from rgX16_put K34 Hx0 e44)
      have hf := pt_kr hf
      cases hf
      exact K47
  · have hf := pm_ie hf c28
    by_cases c48 : x1 = (-1)
    · have hf := pm_it hf c48
      obtain ⟨k49, hf⟩ := pm_if hf
      obtain ⟨v50, e51, hf⟩ := pm_bd hf
      rcases v50 with z53 | w52
      · have hf := pt_kl hf
        cases hf
        exact (show pr_F A h0 z53.2 ∧ A z53.1 from rgX16_put K0 Hx0 e51)
      have K54 := (show pr_F A h0 w52 from rgX16_put K0 Hx0 e51)
      have hf := pt_kr hf
      cases hf
      exact K54
    · have hf := pm_ie hf c48
      obtain ⟨k55, hf⟩ := pm_if hf
      obtain ⟨v56, e57, hf⟩ := pm_bd hf
      rcases v56 with z59 | w58
      · have hf := pt_kl hf
        cases hf
        exact (show pr_F A h0 z59.2 ∧ A z59.1 from rgX16_put K0 Hx0 e57)
      have K60 := (show pr_F A h0 w58 from rgX16_put K0 Hx0 e57)
      have hf := pt_kr hf
      cases hf
      exact K60
set_option maxHeartbeats 4000000 in
set_option maxRecDepth 100000 in
theorem rgX16_selects_b48 {A : Nat → Prop} {h0 h : pm_H} (K0 : pr_F A h0 h) {x0 : Nat} {x1 : Int32} {x2 : Int32} (Hx0 : A x0) {r : ((Nat × pm_H) ⊕ pm_H)} (hf : fX16_selects_b48 h x0 x1 x2 = some r) : pt_RV A h0 r := by
  unfold fX16_selects_b48 at hf
  exact rgX16_selects_b53 K0 Hx0 hf
set_option maxHeartbeats 4000000 in
set_option maxRecDepth 100000 in
theorem rgX16_selects_b52 {A : Nat → Prop} {h0 h : pm_H} (K0 : pr_F A h0 h) {x0 : Nat} {x1 : Int32} {x2 : Int32} (Hx0 : A x0) {r : ((Nat × pm_H) ⊕ pm_H)} (hf : fX16_selects_b52 h x0 x1 x2 = some r) : pt_RV A h0 r := by
  unfold fX16_selects_b52 at hf
  exact rgX16_selects_b53 K0 Hx0 hf
set_option maxHeartbeats 4000000 in
set_option maxRecDepth 100000 in
theorem rgX16_selects {A : Nat → Prop} {h0 h : pm_H} (K0 : pr_F A h0 h) {a0 : Nat} (Ha0 : A a0) {r : ((Nat × pm_H) ⊕ pm_H)} (hf : fX16_selects h a0 = some r) : pt_RV A h0 r := by
  unfold fX16_selects at hf
  obtain ⟨k1, hf⟩ := pm_if hf
  obtain ⟨v2, e3, hf⟩ := pm_bd hf
  rcases v2 with z5 | w4
  · have hf := pt_kl hf
    cases hf
    exact (show pr_F A h0 z5.2 ∧ A z5.1 from rgX16_takes K0 Ha0 e3)
  have K6 := (show pr_F A h0 w4 from rgX16_takes K0 Ha0 e3)
  have hf := pt_kr hf
  obtain ⟨k7, hf⟩ := pm_if hf
  obtain ⟨v8, e9, hf⟩ := pm_bd hf
  rcases v8 with z11 | w10
  · have hf := pt_kl hf
    cases hf
    exact (show pr_F A h0 z11.2 ∧ A z11.1 from rgX16_take K6 Ha0 e9)
  have K12 := (show pr_F A h0 w10.2 from rgX16_take K6 Ha0 e9)
  have hf := pt_kr hf
  obtain ⟨k13, hf⟩ := pm_if hf
  obtain ⟨v14, e15, hf⟩ := pm_bd hf
  rcases v14 with z17 | w16
  · have hf := pt_kl hf
    cases hf
    exact (show pr_F A h0 z17.2 ∧ A z17.1 from rgX16_take K12 Ha0 e15)
  have K18 := (show pr_F A h0 w16.2 from rgX16_take K12 Ha0 e15)
  have hf := pt_kr hf
  obtain ⟨v19, e20, hf⟩ := pm_lt hf
  by_cases c21 : v19 = 0
  · have hf := pm_it hf c21
    obtain ⟨v22, e23, hf⟩ := pm_lt hf
    by_cases c24 : v22 = 0
    · have hf := pm_it hf c24
      by_cases c25 : w10.1 = (-1)
      · have hf := pm_it hf c25
        exact rgX16_selects_b48 K18 Ha0 hf
      · have hf := pm_ie hf c25
        by_cases c26 : w16.1 = (-1)
        · have hf := pm_it hf c26
          exact rgX16_selects_b48 K18 Ha0 hf
        · have hf := pm_ie hf c26
          by_cases c27 : w10.1 = w16.1
          · have hf := pm_it hf c27
            exact rgX16_selects_b48 K18 Ha0 hf
          · have hf := pm_ie hf c27
            exact rgX16_selects_b52 K18 Ha0 hf
    · have hf := pm_ie hf c24
      exact rgX16_selects_b52 K18 Ha0 hf
  · have hf := pm_ie hf c21
    exact rgX16_selects_b52 K18 Ha0 hf
set_option maxHeartbeats 4000000 in
set_option maxRecDepth 100000 in
theorem rlX16_signed {A : Nat → Prop} {h0 : pm_H} {r : ((Nat × pm_H) ⊕ (Int64 × pm_H))} : ∀ n : Nat, (∀ (x0 : Nat) (x1 : Int32) (x2 : Int32) (x3 : Int64) (x5 : Int32) (h : pm_H), pr_F A h0 h → A x0 → pm_iter sX16_signed n (.inl (x0, x1, x2, x3, x5, h)) = some r → pt_RJ A h0 r) ∧ (∀ (x0 : Nat) (x1 : Int32) (x2 : Int32) (x3 : Int64) (x5 : Int32) (x6 : Int32) (h : pm_H), pr_F A h0 h → A x0 → pm_iter sX16_signed n (.inr (.inl (x0, x1, x2, x3, x5, x6, h))) = some r → pt_RJ A h0 r) ∧ (∀ (x0 : Nat) (x1 : Int32) (x2 : Int32) (x3 : Int64) (x5 : Int32) (x6 : Int32) (s0 : Int32) (s1 : Int32) (h : pm_H), pr_F A h0 h → A x0 → pm_iter sX16_signed n (.inr (.inr (x0, x1, x2, x3, x5, x6, s0, s1, h))) = some r → pt_RJ A h0 r) := by
  intro n
  induction n with
  | zero => exact ⟨fun _ _ _ _ _ _ _ _ hf => (by cases hf), fun _ _ _ _ _ _ _ _ _ hf => (by cases hf), fun _ _ _ _ _ _ _ _ _ _ _ hf => (by cases hf)⟩
  | succ n ih =>
    refine ⟨fun x0 x1 x2 x3 x5 h K0 Hx0 hf => ?_, ?_⟩
    · obtain ⟨y, hf, hi⟩ := pm_iter_s hf
      have hf : tX16_signed_18 x0 x1 x2 x3 x5 h = some y := hf
      unfold tX16_signed_18 at hf
      by_cases c2 : x2 ≤ x5
      · have hf := pm_it hf c2
        cases hf
        cases hi
        exact K0
      · have hf := pm_ie hf c2
        obtain ⟨k3, hf⟩ := pm_if hf
        obtain ⟨v4, e5, hf⟩ := pm_bd hf
        rcases v4 with z7 | w6
        · have hf := pt_sl hf
          cases hf
          cases hi
          exact (show pr_F A h0 z7.2 ∧ A z7.1 from rgX16_next K0 Hx0 e5)
        have K8 := (show pr_F A h0 w6.2 from rgX16_next K0 Hx0 e5)
        have hf := pt_sr hf
        by_cases c9 : x5 = (x2 - 1)
        · have hf := pm_it hf c9
          obtain ⟨y10, e11, hf⟩ := pm_lt hf
          obtain ⟨y12, e13, hf⟩ := pm_lt hf
          obtain ⟨y14, e15, hf⟩ := pm_lt hf
          by_cases c16 : 127 < w6.1
          · have hf := pm_it hf c16
            obtain ⟨k17, hf⟩ := pm_if hf
            obtain ⟨v18, e19, hf⟩ := pm_bd hf
            rcases v18 with z21 | w20
            · have hf := pt_sl hf
              cases hf
              cases hi
              exact (show pr_F A h0 z21.2 ∧ A z21.1 from rgX16_stops K8 Hx0 e19)
            have K22 := (show pr_F A h0 w20 from rgX16_stops K8 Hx0 e19)
            have hf := pt_sr hf
            cases hf
            exact ih.2.1 x0 x1 x2 x3 x5 w6.1 w20 K22 Hx0 hi
          · have hf := pm_ie hf c16
            by_cases c23 : y14 = 1
            · have hf := pm_it hf c23
              cases hf
              exact ih.2.2 x0 x1 x2 x3 x5 w6.1 (((1 : Int32) <<< ((7 - y10) &&& 31)) - 1) y12 w6.2 K8 Hx0 hi
            · have hf := pm_ie hf c23
              cases hf
              exact ih.2.2 x0 x1 x2 x3 x5 w6.1 0 y12 w6.2 K8 Hx0 hi
        · have hf := pm_ie hf c9
          cases hf
          exact ih.2.1 x0 x1 x2 x3 x5 w6.1 w6.2 K8 Hx0 hi
    refine ⟨fun x0 x1 x2 x3 x5 x6 h K0 Hx0 hf => ?_, ?_⟩
    · obtain ⟨y, hf, hi⟩ := pm_iter_s hf
      have hf : tX16_signed_110 x0 x1 x2 x3 x5 x6 h = some y := hf
      unfold tX16_signed_110 at hf
      obtain ⟨y24, e25, hf⟩ := pm_lt hf
      by_cases c26 : 128 ≤ x6
      · have hf := pm_it hf c26
        obtain ⟨y27, e28, hf⟩ := pm_lt hf
        cases hf
        exact ih.1 x0 x1 x2 y24 y27 h K0 Hx0 hi
      · have hf := pm_ie hf c26
        by_cases c29 : 64 ≤ ((7 * x5) + 7)
        · have hf := pm_it hf c29
          cases hf
          cases hi
          exact K0
        · have hf := pm_ie hf c29
          by_cases c30 : (x6 &&& 64) = 0
          · have hf := pm_it hf c30
            cases hf
            cases hi
            exact K0
          · have hf := pm_ie hf c30
            cases hf
            cases hi
            exact K0
    refine fun x0 x1 x2 x3 x5 x6 s0 s1 h K0 Hx0 hf => ?_
    obtain ⟨y, hf, hi⟩ := pm_iter_s hf
    have hf : tX16_signed_96 x0 x1 x2 x3 x5 x6 s0 s1 h = some y := hf
    unfold tX16_signed_96 at hf
    by_cases c31 : s1 = s0
    · have hf := pm_it hf c31
      cases hf
      exact ih.2.1 x0 x1 x2 x3 x5 x6 h K0 Hx0 hi
    · have hf := pm_ie hf c31
      obtain ⟨k32, hf⟩ := pm_if hf
      obtain ⟨v33, e34, hf⟩ := pm_bd hf
      rcases v33 with z36 | w35
      · have hf := pt_sl hf
        cases hf
        cases hi
        exact (show pr_F A h0 z36.2 ∧ A z36.1 from rgX16_stops K0 Hx0 e34)
      have K37 := (show pr_F A h0 w35 from rgX16_stops K0 Hx0 e34)
      have hf := pt_sr hf
      cases hf
      exact ih.2.1 x0 x1 x2 x3 x5 x6 w35 K37 Hx0 hi
set_option maxHeartbeats 4000000 in
set_option maxRecDepth 100000 in
theorem rgX16_signed {A : Nat → Prop} {h0 h : pm_H} (K0 : pr_F A h0 h) {a0 : Nat} {p1 : Int32} (Ha0 : A a0) {r : ((Nat × pm_H) ⊕ (Int64 × pm_H))} (hf : fX16_signed h a0 p1 = some r) : pt_RJ A h0 r := by
  unfold fX16_signed at hf
  by_cases c1 : p1 = 64
  · have hf := pm_it hf c1
    obtain ⟨n, hn⟩ := pm_lim_iter hf
    exact (rlX16_signed n).1 a0 p1 10 0 0 h K0 Ha0 hn
  · have hf := pm_ie hf c1
    obtain ⟨n, hn⟩ := pm_lim_iter hf
    exact (rlX16_signed n).1 a0 p1 5 0 0 h K0 Ha0 hn
set_option maxHeartbeats 4000000 in
set_option maxRecDepth 100000 in
theorem rgX16_small {A : Nat → Prop} {h0 h : pm_H} (K0 : pr_F A h0 h) {a0 : Nat} {p1 : Int32} (Ha0 : A a0) {r : ((Nat × pm_H) ⊕ (Int32 × pm_H))} (hf : fX16_small h a0 p1 = some r) : pt_RI A h0 r := by
  unfold fX16_small at hf
  obtain ⟨k1, hf⟩ := pm_if hf
  obtain ⟨v2, e3, hf⟩ := pm_bd hf
  rcases v2 with z5 | w4
  · have hf := pt_kl hf
    cases hf
    exact (show pr_F A h0 z5.2 ∧ A z5.1 from rgX16_next K0 Ha0 e3)
  have K6 := (show pr_F A h0 w4.2 from rgX16_next K0 Ha0 e3)
  have hf := pt_kr hf
  by_cases c7 : w4.1 ≤ p1
  · have hf := pm_it hf c7
    cases hf
    exact K6
  · have hf := pm_ie hf c7
    obtain ⟨k8, hf⟩ := pm_if hf
    obtain ⟨v9, e10, hf⟩ := pm_bd hf
    rcases v9 with z12 | w11
    · have hf := pt_kl hf
      cases hf
      exact (show pr_F A h0 z12.2 ∧ A z12.1 from rgX16_stops K6 Ha0 e10)
    have K13 := (show pr_F A h0 w11 from rgX16_stops K6 Ha0 e10)
    have hf := pt_kr hf
    cases hf
    exact K13
