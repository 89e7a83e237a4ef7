abbrev WX16_answer : List Nat := [2058, 2067, 2124, 2129, 2131, 2133, 2141, 2142, 2143, 2144, 4096, 4352, 4480]
set_option maxHeartbeats 4000000 in
set_option maxRecDepth 100000 in
theorem wlX16_answer {h0 : pm_H} {r : (Int32 × pm_H)} : ∀ n : Nat, (∀ (x0 : Nat) (x1 : Int32) (x2 : Int32) (x3 : Int32) (h : pm_H), pw_F WX16_answer h0 h → pm_iter sX16_answer n (x0, x1, x2, x3, h) = some r → pw_F WX16_answer h0 r.2) := by
  intro n
  induction n with
  | zero => exact fun _ _ _ _ _ _ hf => (by cases hf)
  | succ n ih =>
    refine fun x0 x1 x2 x3 h K0 hf => ?_
    obtain ⟨y, hf, hi⟩ := pm_iter_s hf
    have hf : tX16_answer_64 x0 x1 x2 x3 h = some y := hf
    unfold tX16_answer_64 at hf
    by_cases c12 : x2 ≤ x3
    · have hf := pm_it hf c12
      obtain ⟨k13, hf⟩ := pm_if hf
      obtain ⟨v14, e15, hf⟩ := pm_bd hf
      have K16 := pw_t (by decide) (pw_sI K0 rfl k13 (by decide)) (wfX16_goesOn (pw_rf _) e15)
      cases hf
      cases hi
      exact K16
    · have hf := pm_ie hf c12
      obtain ⟨k17, hf⟩ := pm_if hf
      obtain ⟨v18, e19, hf⟩ := pm_bd hf
      obtain ⟨k20, hf⟩ := pm_if hf
      obtain ⟨v21, e22, hf⟩ := pm_bd hf
      obtain ⟨v23, e24, hf⟩ := pm_bd hf
      obtain ⟨k25, hf⟩ := pm_if hf
      obtain ⟨u26, hf⟩ := pm_if hf
      obtain ⟨y27, e28, hf⟩ := pm_lt hf
      obtain ⟨k29, hf⟩ := pm_if hf
      obtain ⟨u30, hf⟩ := pm_if hf
      obtain ⟨v31, e32, hf⟩ := pm_bd hf
      obtain ⟨k33, hf⟩ := pm_if hf
      obtain ⟨u34, hf⟩ := pm_if hf
      obtain ⟨v35, e36, hf⟩ := pm_lt hf
      obtain ⟨v37, e38, hf⟩ := pm_bd hf
      obtain ⟨k39, hf⟩ := pm_if hf
      obtain ⟨u40, hf⟩ := pm_if hf
      by_cases c41 : (pm_I (pm_setL h v37 x3.toNatClampNeg v35) x0 85) ≤ 0
      · have hf := pm_it hf c41
        obtain ⟨y42, e43, hf⟩ := pm_lt hf
        cases hf
        exact ih x0 x1 x2 y42 (pm_setL h v37 x3.toNatClampNeg v35) (pw_aL K0 rfl k39 (by decide) (by decide))  hi
      · have hf := pm_ie hf c41
        obtain ⟨v44, e45, hf⟩ := pm_bd hf
        have K46 := pw_t (by decide) (pw_aL K0 rfl k39 (by decide) (by decide)) (wfX16_push (pw_rf _) e45)
        obtain ⟨y47, e48, hf⟩ := pm_lt hf
        cases hf
        exact ih x0 x1 x2 y47 v44 K46  hi
set_option maxHeartbeats 4000000 in
set_option maxRecDepth 100000 in
theorem wfX16_answer {h0 h : pm_H} (K0 : pw_F WX16_answer h0 h) {a0 : Nat}  {r : (Int32 × pm_H)} (hf : fX16_answer h a0 = some r) : pw_F WX16_answer h0 r.2 := by
  unfold fX16_answer at hf
  obtain ⟨k1, hf⟩ := pm_if hf
  by_cases c2 : (pm_I h a0 76) = 5
  · have hf := pm_it hf c2
    obtain ⟨y3, e4, hf⟩ := pm_lt hf
    obtain ⟨v5, e6, hf⟩ := pm_bd hf
    by_cases c7 : (pm_I h a0 81) = v5
    · have hf := pm_it hf c7
      obtain ⟨v8, e9, hf⟩ := pm_bd hf
      by_cases c10 : v8 = 0
      · have hf := pm_it hf c10
        cases hf
        exact K0
      · have hf := pm_ie hf c10
        by_cases c11 : (pm_I (pm_setI h a0 81 0) a0 85) = 0
        · have hf := pm_it hf c11
          obtain ⟨n, hn⟩ := pm_lim_iter hf
          exact (wlX16_answer n) a0 y3 v5 0 (pm_setI (pm_setI h a0 81 0) a0 76 2) (pw_sI (pw_sI K0 rfl k1 (by decide)) (pkI rfl) k1 (by decide))  hn
        · have hf := pm_ie hf c11
          obtain ⟨n, hn⟩ := pm_lim_iter hf
          exact (wlX16_answer n) a0 y3 v5 0 (pm_setI (pm_setI h a0 81 0) a0 76 1) (pw_sI (pw_sI K0 rfl k1 (by decide)) (pkI rfl) k1 (by decide))  hn
    · have hf := pm_ie hf c7
      cases hf
      exact K0
  · have hf := pm_ie hf c2
    cases hf
    exact K0
abbrev WX16_calls : List Nat := [2058, 2067, 2093, 2124, 2126, 2127, 2128, 2131, 2133, 2141, 2142, 2143, 2144, 4096, 4352, 4480]
set_option maxHeartbeats 4000000 in
set_option maxRecDepth 100000 in
theorem wfX16_calls {h0 h : pm_H} (K0 : pw_F WX16_calls h0 h) {a0 : Nat} {p1 : Int32}  {r : pm_H} (hf : fX16_calls h a0 p1 = some r) : pw_F WX16_calls h0 r := by
  unfold fX16_calls at hf
  obtain ⟨k1, hf⟩ := pm_if hf
  obtain ⟨v2, e3, hf⟩ := pm_bd hf
  have K4 := pw_t (by decide) (pw_sI (pw_sI (pw_sI (pw_sI K0 rfl k1 (by decide)) (pkI rfl) k1 (by decide)) (pkI (pkI rfl)) k1 (by decide)) (pkI (pkI (pkI rfl))) k1 (by decide)) (wfX16_enters (pw_rf _) e3)
  obtain ⟨k5, hf⟩ := pm_if hf
  obtain ⟨v6, e7, hf⟩ := pm_bd hf
  have K8 := pw_t (by decide) K4 (wfX16_goesOn (pw_rf _) e7)
  cases hf
  exact K8
abbrev WX16_declares : List Nat := [2067, 2069, 4096]
set_option maxHeartbeats 4000000 in
set_option maxRecDepth 100000 in
theorem wlX16_declares {h0 : pm_H} {r : pm_H} : ∀ n : Nat, (∀ (x0 : Nat) (x1 : Int32) (h : pm_H), pw_F WX16_declares h0 h → pm_iter sX16_declares n (.inl (x0, x1, h)) = some r → pw_F WX16_declares h0 r) ∧ (∀ (x0 : Nat) (x1 : Int32) (h : pm_H), pw_F WX16_declares h0 h → pm_iter sX16_declares n (.inr (.inl (x0, x1, h))) = some r → pw_F WX16_declares h0 r) ∧ (∀ (x0 : Nat) (x1 : Int32) (h : pm_H), pw_F WX16_declares h0 h → pm_iter sX16_declares n (.inr (.inr (.inl (x0, x1, h)))) = some r → pw_F WX16_declares h0 r) ∧ (∀ (x0 : Nat) (x1 : Int32) (h : pm_H), pw_F WX16_declares h0 h → pm_iter sX16_declares n (.inr (.inr (.inr (.inl (x0, x1, h))))) = some r → pw_F WX16_declares h0 r) ∧ (∀ (x0 : Nat) (x1 : Int32) (x2 : Int32) (h : pm_H), pw_F WX16_declares h0 h → pm_iter sX16_declares n (.inr (.inr (.inr (.inr (x0, x1, x2, h))))) = some r → pw_F WX16_declares h0 r) := by
  intro n
  induction n with
  | zero => exact ⟨fun _ _ _ _ hf => (by cases hf), fun _ _ _ _ hf => (by cases hf), fun _ _ _ _ hf => (by cases hf), fun _ _ _ _ hf => (by cases hf), fun _ _ _ _ _ hf => (by cases hf)⟩
  | succ n ih =>
    refine ⟨fun x0 x1 h K0 hf => ?_, ?_⟩
    · obtain ⟨y, hf, hi⟩ := pm_iter_s hf
      have hf : tX16_declares_2 x0 x1 h = some y := hf
      unfold tX16_declares_2 at hf
      by_cases c1 : 128 ≤ x1
      · have hf := pm_it hf c1
        obtain ⟨k2, hf⟩ := pm_if hf
        cases hf
        exact ih.2.1 x0 0 (pm_setI h x0 21 0) (pw_sI K0 rfl k2 (by decide))  hi
      · have hf := pm_ie hf c1
        obtain ⟨k3, hf⟩ := pm_if hf
        obtain ⟨v4, e5, hf⟩ := pm_bd hf
        obtain ⟨k6, hf⟩ := pm_if hf
        obtain ⟨u7, hf⟩ := pm_if hf
        obtain ⟨y8, e9, hf⟩ := pm_lt hf
        cases hf
        exact ih.1 x0 y8 (pm_setI h v4 x1.toNatClampNeg (vp_nar .boolean 0)) (pw_aI K0 rfl k6 (by decide) (by decide))  hi
    refine ⟨fun x0 x1 h K0 hf => ?_, ?_⟩
    · obtain ⟨y, hf, hi⟩ := pm_iter_s hf
      have hf : tX16_declares_29 x0 x1 h = some y := hf
      unfold tX16_declares_29 at hf
      obtain ⟨k10, hf⟩ := pm_if hf
      obtain ⟨v11, e12, hf⟩ := pm_bd hf
      obtain ⟨k13, hf⟩ := pm_if hf
      by_cases c14 : (pm_I h v11 24) ≤ x1
      · have hf := pm_it hf c14
        cases hf
        exact ih.2.2.1 x0 0 h K0  hi
      · have hf := pm_ie hf c14
        obtain ⟨v15, e16, hf⟩ := pm_bd hf
        obtain ⟨k17, hf⟩ := pm_if hf
        obtain ⟨u18, hf⟩ := pm_if hf
        obtain ⟨v19, e20, hf⟩ := pm_bd hf
        have K21 := pw_t (by decide) K0 (wfX16_declaresIn (pw_rf _) e20)
        obtain ⟨y22, e23, hf⟩ := pm_lt hf
        cases hf
        exact ih.2.1 x0 y22 v19 K21  hi
    refine ⟨fun x0 x1 h K0 hf => ?_, ?_⟩
    · obtain ⟨y, hf, hi⟩ := pm_iter_s hf
      have hf : tX16_declares_61 x0 x1 h = some y := hf
      unfold tX16_declares_61 at hf
      obtain ⟨k24, hf⟩ := pm_if hf
      obtain ⟨v25, e26, hf⟩ := pm_bd hf
      obtain ⟨k27, hf⟩ := pm_if hf
      by_cases c28 : (pm_I h v25 34) ≤ x1
      · have hf := pm_it hf c28
        cases hf
        exact ih.2.2.2.1 x0 0 h K0  hi
      · have hf := pm_ie hf c28
        obtain ⟨v29, e30, hf⟩ := pm_bd hf
        obtain ⟨k31, hf⟩ := pm_if hf
        obtain ⟨u32, hf⟩ := pm_if hf
        by_cases c33 : (pm_I h v29 x1.toNatClampNeg) = 0
        · have hf := pm_it hf c33
          obtain ⟨v34, e35, hf⟩ := pm_bd hf
          obtain ⟨k36, hf⟩ := pm_if hf
          obtain ⟨u37, hf⟩ := pm_if hf
          obtain ⟨v38, e39, hf⟩ := pm_bd hf
          have K40 := pw_t (by decide) K0 (wfX16_declaresIn (pw_rf _) e39)
          obtain ⟨k41, hf⟩ := pm_if hf
          obtain ⟨v42, e43, hf⟩ := pm_bd hf
          obtain ⟨k44, hf⟩ := pm_if hf
          obtain ⟨v45, e46, hf⟩ := pm_bd hf
          obtain ⟨k47, hf⟩ := pm_if hf
          obtain ⟨u48, hf⟩ := pm_if hf
          obtain ⟨y49, e50, hf⟩ := pm_lt hf
          cases hf
          exact ih.2.2.2.2 x0 x1 0 (pm_setI v38 x0 19 y49) (pw_sI K40 rfl k41 (by decide))  hi
        · have hf := pm_ie hf c33
          obtain ⟨v51, e52, hf⟩ := pm_bd hf
          obtain ⟨k53, hf⟩ := pm_if hf
          obtain ⟨u54, hf⟩ := pm_if hf
          obtain ⟨y55, e56, hf⟩ := pm_lt hf
          cases hf
          exact ih.2.2.2.2 x0 x1 0 (pm_setI h x0 19 y55) (pw_sI K0 rfl k24 (by decide))  hi
    refine ⟨fun x0 x1 h K0 hf => ?_, ?_⟩
    · obtain ⟨y, hf, hi⟩ := pm_iter_s hf
      have hf : tX16_declares_170 x0 x1 h = some y := hf
      unfold tX16_declares_170 at hf
      obtain ⟨k57, hf⟩ := pm_if hf
      obtain ⟨v58, e59, hf⟩ := pm_bd hf
      obtain ⟨k60, hf⟩ := pm_if hf
      by_cases c61 : (pm_I h v58 28) ≤ x1
      · have hf := pm_it hf c61
        cases hf
        cases hi
        exact K0
      · have hf := pm_ie hf c61
        obtain ⟨v62, e63, hf⟩ := pm_bd hf
        obtain ⟨k64, hf⟩ := pm_if hf
        obtain ⟨u65, hf⟩ := pm_if hf
        by_cases c66 : (pm_I h v62 x1.toNatClampNeg) = 0
        · have hf := pm_it hf c66
          obtain ⟨v67, e68, hf⟩ := pm_bd hf
          obtain ⟨k69, hf⟩ := pm_if hf
          obtain ⟨u70, hf⟩ := pm_if hf
          obtain ⟨v71, e72, hf⟩ := pm_bd hf
          have K73 := pw_t (by decide) K0 (wfX16_declare (pw_rf _) e72)
          obtain ⟨y74, e75, hf⟩ := pm_lt hf
          cases hf
          exact ih.2.2.2.1 x0 y74 v71 K73  hi
        · have hf := pm_ie hf c66
          obtain ⟨y76, e77, hf⟩ := pm_lt hf
          cases hf
          exact ih.2.2.2.1 x0 y76 h K0  hi
    refine fun x0 x1 x2 h K0 hf => ?_
    obtain ⟨y, hf, hi⟩ := pm_iter_s hf
    have hf : tX16_declares_112 x0 x1 x2 h = some y := hf
    unfold tX16_declares_112 at hf
    obtain ⟨k78, hf⟩ := pm_if hf
    obtain ⟨v79, e80, hf⟩ := pm_bd hf
    obtain ⟨k81, hf⟩ := pm_if hf
    obtain ⟨v82, e83, hf⟩ := pm_bd hf
    obtain ⟨k84, hf⟩ := pm_if hf
    obtain ⟨u85, hf⟩ := pm_if hf
    by_cases c86 : (pm_I h v82 x1.toNatClampNeg) ≤ x2
    · have hf := pm_it hf c86
      obtain ⟨y87, e88, hf⟩ := pm_lt hf
      cases hf
      exact ih.2.2.1 x0 y87 h K0  hi
    · have hf := pm_ie hf c86
      obtain ⟨v89, e90, hf⟩ := pm_bd hf
      obtain ⟨k91, hf⟩ := pm_if hf
      obtain ⟨u92, hf⟩ := pm_if hf
      by_cases c93 : (pm_I h v89 x1.toNatClampNeg) = 0
      · have hf := pm_it hf c93
        obtain ⟨v94, e95, hf⟩ := pm_bd hf
        have K96 := pw_t (by decide) K0 (wfX16_word (pw_rf _) e95)
        obtain ⟨k97, hf⟩ := pm_if hf
        obtain ⟨v98, e99, hf⟩ := pm_bd hf
        have K100 := pw_t (by decide) K96 (wfX16_declare (pw_rf _) e99)
        obtain ⟨y101, e102, hf⟩ := pm_lt hf
        cases hf
        exact ih.2.2.2.2 x0 x1 y101 v98 K100  hi
      · have hf := pm_ie hf c93
        obtain ⟨v103, e104, hf⟩ := pm_bd hf
        have K105 := pw_t (by decide) K0 (wfX16_declaresIn (pw_rf _) e104)
        obtain ⟨y106, e107, hf⟩ := pm_lt hf
        cases hf
        exact ih.2.2.2.2 x0 x1 y106 v103 K105  hi
set_option maxHeartbeats 4000000 in
set_option maxRecDepth 100000 in
theorem wfX16_declares {h0 h : pm_H} (K0 : pw_F WX16_declares h0 h) {a0 : Nat}  {r : pm_H} (hf : fX16_declares h a0 = some r) : pw_F WX16_declares h0 r := by
  unfold fX16_declares at hf
  obtain ⟨n, hn⟩ := pm_lim_iter hf
  exact (wlX16_declares n).1 a0 0 h K0  hn
abbrev WX16_real : List Nat := [1920, 1921, 1922, 1923]
set_option maxHeartbeats 4000000 in
set_option maxRecDepth 100000 in
theorem wfX16_real {h0 h : pm_H} (K0 : pw_F WX16_real h0 h) {a0 : Nat} {p1 : Int32} {p2 : Int32} {p3 : Int64} {p4 : Int64}  {r : (Int64 × pm_H)} (hf : fX16_real h a0 p1 p2 p3 p4 = some r) : pw_F WX16_real h0 r.2 := by
  unfold fX16_real at hf
  by_cases c1 : p1 = 0
  · have hf := pm_it hf c1
    obtain ⟨v2, e3, hf⟩ := pm_lt hf
    cases hf
    exact K0
  have hf := pm_ie hf c1
  by_cases c4 : p1 = 1
  · have hf := pm_it hf c4
    obtain ⟨v5, e6, hf⟩ := pm_lt hf
    cases hf
    exact K0
  have hf := pm_ie hf c4
  by_cases c7 : p1 = 2
  · have hf := pm_it hf c7
    obtain ⟨k8, hf⟩ := pm_if hf
    obtain ⟨v9, e10, hf⟩ := pm_bd hf
    have K11 := pw_t (by decide) K0 (wfX16_wholeOf (pw_rf _) e10)
    cases hf
    exact K11
  have hf := pm_ie hf c7
  by_cases c12 : p1 = 3
  · have hf := pm_it hf c12
    obtain ⟨k13, hf⟩ := pm_if hf
    obtain ⟨v14, e15, hf⟩ := pm_bd hf
    have K16 := pw_t (by decide) K0 (wfX16_wholeOf (pw_rf _) e15)
    cases hf
    exact K16
  have hf := pm_ie hf c12
  by_cases c17 : p1 = 4
  · have hf := pm_it hf c17
    obtain ⟨k18, hf⟩ := pm_if hf
    obtain ⟨v19, e20, hf⟩ := pm_bd hf
    have K21 := pw_t (by decide) K0 (wfX16_wholeOf (pw_rf _) e20)
    cases hf
    exact K21
  have hf := pm_ie hf c17
  by_cases c22 : p1 = 5
  · have hf := pm_it hf c22
    obtain ⟨k23, hf⟩ := pm_if hf
    obtain ⟨v24, e25, hf⟩ := pm_bd hf
    have K26 := pw_t (by decide) K0 (wfX16_wholeOf (pw_rf _) e25)
    cases hf
    exact K26
  have hf := pm_ie hf c22
  by_cases c27 : p1 = 6
  · have hf := pm_it hf c27
    obtain ⟨k28, hf⟩ := pm_if hf
    obtain ⟨v29, e30, hf⟩ := pm_bd hf
    have K31 := pw_t (by decide) K0 (wfX16_root (pw_rf _) e30)
    cases hf
    exact K31
  have hf := pm_ie hf c27
  by_cases c32 : p1 = 7
  · have hf := pm_it hf c32
    by_cases c33 : p1 = 8
    · have hf := pm_it hf c33
      obtain ⟨k34, hf⟩ := pm_if hf
      obtain ⟨v35, e36, hf⟩ := pm_bd hf
      have K37 := pw_t (by decide) K0 (wfX16_sum (pw_rf _) e36)
      cases hf
      exact K37
    · have hf := pm_ie hf c33
      obtain ⟨k38, hf⟩ := pm_if hf
      obtain ⟨v39, e40, hf⟩ := pm_bd hf
      have K41 := pw_t (by decide) K0 (wfX16_sum (pw_rf _) e40)
      cases hf
      exact K41
  have hf := pm_ie hf c32
  by_cases c42 : p1 = 8
  · have hf := pm_it hf c42
    by_cases c43 : p1 = 8
    · have hf := pm_it hf c43
      obtain ⟨k44, hf⟩ := pm_if hf
      obtain ⟨v45, e46, hf⟩ := pm_bd hf
      have K47 := pw_t (by decide) K0 (wfX16_sum (pw_rf _) e46)
      cases hf
      exact K47
    · have hf := pm_ie hf c43
      obtain ⟨k48, hf⟩ := pm_if hf
      obtain ⟨v49, e50, hf⟩ := pm_bd hf
      have K51 := pw_t (by decide) K0 (wfX16_sum (pw_rf _) e50)
      cases hf
      exact K51
  have hf := pm_ie hf c42
  by_cases c52 : p1 = 9
  · have hf := pm_it hf c52
    obtain ⟨k53, hf⟩ := pm_if hf
    obtain ⟨v54, e55, hf⟩ := pm_bd hf
    have K56 := pw_t (by decide) K0 (wfX16_product (pw_rf _) e55)
    cases hf
    exact K56
  have hf := pm_ie hf c52
  by_cases c57 : p1 = 10
  · have hf := pm_it hf c57
    obtain ⟨k58, hf⟩ := pm_if hf
    obtain ⟨v59, e60, hf⟩ := pm_bd hf
    have K61 := pw_t (by decide) K0 (wfX16_quotient (pw_rf _) e60)
    cases hf
    exact K61
  have hf := pm_ie hf c57
  by_cases c62 : p1 = 11
  · have hf := pm_it hf c62
    by_cases c63 : p1 = 11
    · have hf := pm_it hf c63
      obtain ⟨k64, hf⟩ := pm_if hf
      obtain ⟨v65, e66, hf⟩ := pm_bd hf
      have K67 := pw_t (by decide) K0 (wfX16_extreme (pw_rf _) e66)
      cases hf
      exact K67
    · have hf := pm_ie hf c63
      obtain ⟨k68, hf⟩ := pm_if hf
      obtain ⟨v69, e70, hf⟩ := pm_bd hf
      have K71 := pw_t (by decide) K0 (wfX16_extreme (pw_rf _) e70)
      cases hf
      exact K71
  have hf := pm_ie hf c62
  by_cases c72 : p1 = 12
  · have hf := pm_it hf c72
    by_cases c73 : p1 = 11
    · have hf := pm_it hf c73
      obtain ⟨k74, hf⟩ := pm_if hf
      obtain ⟨v75, e76, hf⟩ := pm_bd hf
      have K77 := pw_t (by decide) K0 (wfX16_extreme (pw_rf _) e76)
      cases hf
      exact K77
    · have hf := pm_ie hf c73
      obtain ⟨k78, hf⟩ := pm_if hf
      obtain ⟨v79, e80, hf⟩ := pm_bd hf
      have K81 := pw_t (by decide) K0 (wfX16_extreme (pw_rf _) e80)
      cases hf
      exact K81
  have hf := pm_ie hf c72
  obtain ⟨v82, e83, hf⟩ := pm_lt hf
  obtain ⟨v84, e85, hf⟩ := pm_lt hf
  cases hf
  exact K0
abbrev WX16_reckons : List Nat := [1920, 1921, 1922, 1923, 2081]
set_option maxHeartbeats 4000000 in
set_option maxRecDepth 100000 in
theorem wfX16_reckons_b49 {h0 h : pm_H} (K0 : pw_F WX16_reckons h0 h) {x2 : Int64} {x4 : Int64} {x6 : Int32} {s0 : Int32} {s1 : Int32}  {r : (Int64 × pm_H)} (hf : fX16_reckons_b49 h x2 x4 x6 s0 s1 = some r) : pw_F WX16_reckons h0 r.2 := by
  unfold fX16_reckons_b49 at hf
  by_cases c45 : x6 = 0
  · have hf := pm_it hf c45
    by_cases c46 : x6 = 0
    · have hf := pm_it hf c46
      obtain ⟨v47, e48, hf⟩ := pm_bd hf
      by_cases c49 : v47 = 0
      · have hf := pm_it hf c49
        cases hf
        exact K0
      · have hf := pm_ie hf c49
        cases hf
        exact K0
    · have hf := pm_ie hf c46
      obtain ⟨v50, e51, hf⟩ := pm_bd hf
      by_cases c52 : v50 = 0
      · have hf := pm_it hf c52
        cases hf
        exact K0
      · have hf := pm_ie hf c52
        cases hf
        exact K0
  · have hf := pm_ie hf c45
    by_cases c53 : x6 = 0
    · have hf := pm_it hf c53
      obtain ⟨v54, e55, hf⟩ := pm_bd hf
      by_cases c56 : v54 = 0
      · have hf := pm_it hf c56
        cases hf
        exact K0
      · have hf := pm_ie hf c56
        cases hf
        exact K0
    · have hf := pm_ie hf c53
      obtain ⟨v57, e58, hf⟩ := pm_bd hf
      by_cases c59 : v57 = 0
      · have hf := pm_it hf c59
        cases hf
        exact K0
      · have hf := pm_ie hf c59
        cases hf
        exact K0
set_option maxHeartbeats 4000000 in
set_option maxRecDepth 100000 in
theorem wfX16_reckons {h0 h : pm_H} (K0 : pw_F WX16_reckons h0 h) {a0 : Nat} {p1 : Int32} {p2 : Int64} {p3 : Int64}  {r : (Int64 × pm_H)} (hf : fX16_reckons h a0 p1 p2 p3 = some r) : pw_F WX16_reckons h0 r.2 := by
  unfold fX16_reckons at hf
  obtain ⟨v1, e2, hf⟩ := pm_lt hf
  by_cases c3 : p1 = 69
  · have hf := pm_it hf c3
    by_cases c4 : p2 = 0
    · have hf := pm_it hf c4
      cases hf
      exact K0
    · have hf := pm_ie hf c4
      cases hf
      exact K0
  · have hf := pm_ie hf c3
    by_cases c5 : p1 = 80
    · have hf := pm_it hf c5
      by_cases c6 : p2 = 0
      · have hf := pm_it hf c6
        cases hf
        exact K0
      · have hf := pm_ie hf c6
        cases hf
        exact K0
    · have hf := pm_ie hf c5
      by_cases c7 : 91 ≤ p1
      · have hf := pm_it hf c7
        by_cases c8 : 103 ≤ p1
        · have hf := pm_it hf c8
          by_cases c9 : 139 ≤ p1
          · have hf := pm_it hf c9
            by_cases c10 : 167 ≤ p1
            · have hf := pm_it hf c10
              obtain ⟨k11, hf⟩ := pm_if hf
              obtain ⟨v12, e13, hf⟩ := pm_bd hf
              have K14 := pw_t (by decide) K0 (wfX16_turned (pw_rf _) e13)
              cases hf
              exact K14
            · have hf := pm_ie hf c10
              by_cases c15 : v1 = 2
              · have hf := pm_it hf c15
                obtain ⟨k16, hf⟩ := pm_if hf
                obtain ⟨v17, e18, hf⟩ := pm_bd hf
                have K19 := pw_t (by decide) K0 (wfX16_real (pw_rf _) e18)
                cases hf
                exact K19
              · have hf := pm_ie hf c15
                obtain ⟨k20, hf⟩ := pm_if hf
                obtain ⟨v21, e22, hf⟩ := pm_bd hf
                have K23 := pw_t (by decide) K0 (wfX16_real (pw_rf _) e22)
                cases hf
                exact K23
          · have hf := pm_ie hf c9
            by_cases c24 : v1 = 0
            · have hf := pm_it hf c24
              obtain ⟨k25, hf⟩ := pm_if hf
              obtain ⟨v26, e27, hf⟩ := pm_bd hf
              have K28 := pw_t (by decide) K0 (wfX16_short32 (pw_rf _) e27)
              cases hf
              exact K28
            · have hf := pm_ie hf c24
              obtain ⟨k29, hf⟩ := pm_if hf
              obtain ⟨v30, e31, hf⟩ := pm_bd hf
              have K32 := pw_t (by decide) K0 (wfX16_long64 (pw_rf _) e31)
              cases hf
              exact K32
        · have hf := pm_ie hf c8
          by_cases c33 : v1 = 2
          · have hf := pm_it hf c33
            obtain ⟨k34, hf⟩ := pm_if hf
            obtain ⟨v35, e36, hf⟩ := pm_bd hf
            have K37 := pw_t (by decide) K0 (wfX16_isReal (pw_rf _) e36)
            by_cases c38 : v35.1 = 0
            · have hf := pm_it hf c38
              cases hf
              exact K37
            · have hf := pm_ie hf c38
              cases hf
              exact K37
          · have hf := pm_ie hf c33
            obtain ⟨k39, hf⟩ := pm_if hf
            obtain ⟨v40, e41, hf⟩ := pm_bd hf
            have K42 := pw_t (by decide) K0 (wfX16_isReal (pw_rf _) e41)
            by_cases c43 : v40.1 = 0
            · have hf := pm_it hf c43
              cases hf
              exact K42
            · have hf := pm_ie hf c43
              cases hf
              exact K42
      · have hf := pm_ie hf c7
        by_cases c44 : v1 = 0
        · have hf := pm_it hf c44
          exact wfX16_reckons_b49 K0  hf
        · have hf := pm_ie hf c44
          exact wfX16_reckons_b49 K0  hf
abbrev WX16_startsUp : List Nat := [2058, 2067, 2093, 2124, 2125, 2126, 2127, 2128, 2131, 2133, 2141, 2142, 2143, 2144, 4096, 4224, 4352, 4480]
set_option maxHeartbeats 4000000 in
set_option maxRecDepth 100000 in
theorem wlX16_startsUp {h0 : pm_H} {r : pm_H} : ∀ n : Nat, (∀ (x0 : Nat) (x1 : Int32) (x2 : Int32) (h : pm_H), pw_F WX16_startsUp h0 h → pm_iter sX16_startsUp n (.inl (x0, x1, x2, h)) = some r → pw_F WX16_startsUp h0 r) ∧ (∀ (x0 : Nat) (x1 : Int32) (x2 : Int32) (h : pm_H), pw_F WX16_startsUp h0 h → pm_iter sX16_startsUp n (.inr (x0, x1, x2, h)) = some r → pw_F WX16_startsUp h0 r) := by
  intro n
  induction n with
  | zero => exact ⟨fun _ _ _ _ _ hf => (by cases hf), fun _ _ _ _ _ hf => (by cases hf)⟩
  | succ n ih =>
    refine ⟨fun x0 x1 x2 h K0 hf => ?_, ?_⟩
    · obtain ⟨y, hf, hi⟩ := pm_iter_s hf
      have hf : tX16_startsUp_2 x0 x1 x2 h = some y := hf
      unfold tX16_startsUp_2 at hf
      obtain ⟨k1, hf⟩ := pm_if hf
      obtain ⟨v2, e3, hf⟩ := pm_bd hf
      obtain ⟨k4, hf⟩ := pm_if hf
      by_cases c5 : (pm_I h v2 34) ≤ x2
      · have hf := pm_it hf c5
        cases hf
        exact ih.2 x0 x1 0 h K0  hi
      · have hf := pm_ie hf c5
        obtain ⟨v6, e7, hf⟩ := pm_bd hf
        obtain ⟨k8, hf⟩ := pm_if hf
        obtain ⟨u9, hf⟩ := pm_if hf
        by_cases c10 : (pm_I h v6 x2.toNatClampNeg) = 0
        · have hf := pm_it hf c10
          obtain ⟨v11, e12, hf⟩ := pm_bd hf
          obtain ⟨k13, hf⟩ := pm_if hf
          obtain ⟨u14, hf⟩ := pm_if hf
          obtain ⟨v15, e16, hf⟩ := pm_bd hf
          have K17 := pw_t (by decide) K0 (wfX16_constant (pw_rf _) e16)
          obtain ⟨k18, hf⟩ := pm_if hf
          obtain ⟨v19, e20, hf⟩ := pm_bd hf
          obtain ⟨v21, e22, hf⟩ := pm_bd hf
          obtain ⟨k23, hf⟩ := pm_if hf
          obtain ⟨v24, e25, hf⟩ := pm_bd hf
          obtain ⟨k26, hf⟩ := pm_if hf
          obtain ⟨u27, hf⟩ := pm_if hf
          obtain ⟨y28, e29, hf⟩ := pm_lt hf
          obtain ⟨k30, hf⟩ := pm_if hf
          obtain ⟨u31, hf⟩ := pm_if hf
          obtain ⟨v32, e33, hf⟩ := pm_bd hf
          obtain ⟨k34, hf⟩ := pm_if hf
          obtain ⟨u35, hf⟩ := pm_if hf
          obtain ⟨v36, e37, hf⟩ := pm_bd hf
          have K38 := pw_t (by decide) K17 (wfX16_copiesElement (pw_rf _) e37)
          by_cases c39 : v36.1 = 0
          · have hf := pm_it hf c39
            obtain ⟨k40, hf⟩ := pm_if hf
            obtain ⟨v41, e42, hf⟩ := pm_bd hf
            have K43 := pw_t (by decide) K38 (wfX16_failsAtOnce (pw_rf _) e42)
            cases hf
            cases hi
            exact K43
          · have hf := pm_ie hf c39
            obtain ⟨k44, hf⟩ := pm_if hf
            obtain ⟨v45, e46, hf⟩ := pm_bd hf
            obtain ⟨k47, hf⟩ := pm_if hf
            obtain ⟨v48, e49, hf⟩ := pm_bd hf
            obtain ⟨k50, hf⟩ := pm_if hf
            obtain ⟨u51, hf⟩ := pm_if hf
            by_cases c52 : (pm_I v36.2 v48 x2.toNatClampNeg) = 1
            · have hf := pm_it hf c52
              obtain ⟨y53, e54, hf⟩ := pm_lt hf
              cases hf
              exact ih.1 x0 x1 y53 v36.2 K38  hi
            · have hf := pm_ie hf c52
              obtain ⟨v55, e56, hf⟩ := pm_bd hf
              have K57 := pw_t (by decide) K38 (wfX16_dropped (pw_rf _) e56)
              obtain ⟨y58, e59, hf⟩ := pm_lt hf
              cases hf
              exact ih.1 x0 x1 y58 v55 K57  hi
        · have hf := pm_ie hf c10
          obtain ⟨u60, hf⟩ := pm_if hf
          by_cases c61 : (pm_I h v6 x2.toNatClampNeg) = 1
          · have hf := pm_it hf c61
            obtain ⟨y62, e63, hf⟩ := pm_lt hf
            cases hf
            exact ih.1 x0 x1 y62 h K0  hi
          · have hf := pm_ie hf c61
            obtain ⟨v64, e65, hf⟩ := pm_bd hf
            have K66 := pw_t (by decide) K0 (wfX16_dropped (pw_rf _) e65)
            obtain ⟨y67, e68, hf⟩ := pm_lt hf
            cases hf
            exact ih.1 x0 x1 y67 v64 K66  hi
    refine fun x0 x1 x2 h K0 hf => ?_
    obtain ⟨y, hf, hi⟩ := pm_iter_s hf
    have hf : tX16_startsUp_116 x0 x1 x2 h = some y := hf
    unfold tX16_startsUp_116 at hf
    obtain ⟨k69, hf⟩ := pm_if hf
    obtain ⟨v70, e71, hf⟩ := pm_bd hf
    obtain ⟨k72, hf⟩ := pm_if hf
    by_cases c73 : (pm_I h v70 44) ≤ x2
    · have hf := pm_it hf c73
      by_cases c74 : (pm_L h v70 33) < 0
      · have hf := pm_it hf c74
        cases hf
        cases hi
        exact K0
      · have hf := pm_ie hf c74
        obtain ⟨v75, e76, hf⟩ := pm_bd hf
        obtain ⟨y77, e78, hf⟩ := pm_lt hf
        obtain ⟨k79, hf⟩ := pm_if hf
        obtain ⟨u80, hf⟩ := pm_if hf
        obtain ⟨v81, e82, hf⟩ := pm_bd hf
        have K83 := pw_t (by decide) K0 (wfX16_calls (pw_rf _) e82)
        cases hf
        cases hi
        exact K83
    · have hf := pm_ie hf c73
      obtain ⟨v84, e85, hf⟩ := pm_bd hf
      obtain ⟨k86, hf⟩ := pm_if hf
      obtain ⟨u87, hf⟩ := pm_if hf
      by_cases c88 : (pm_I h v84 x2.toNatClampNeg) = 0
      · have hf := pm_it hf c88
        obtain ⟨y89, e90, hf⟩ := pm_lt hf
        cases hf
        exact ih.2 x0 x1 y89 h K0  hi
      · have hf := pm_ie hf c88
        obtain ⟨v91, e92, hf⟩ := pm_bd hf
        obtain ⟨k93, hf⟩ := pm_if hf
        obtain ⟨u94, hf⟩ := pm_if hf
        obtain ⟨v95, e96, hf⟩ := pm_bd hf
        have K97 := pw_t (by decide) K0 (wfX16_constant (pw_rf _) e96)
        obtain ⟨k98, hf⟩ := pm_if hf
        obtain ⟨v99, e100, hf⟩ := pm_bd hf
        obtain ⟨y101, e102, hf⟩ := pm_lt hf
        obtain ⟨k103, hf⟩ := pm_if hf
        obtain ⟨u104, hf⟩ := pm_if hf
        obtain ⟨v105, e106, hf⟩ := pm_bd hf
        obtain ⟨k107, hf⟩ := pm_if hf
        obtain ⟨v108, e109, hf⟩ := pm_bd hf
        obtain ⟨k110, hf⟩ := pm_if hf
        obtain ⟨u111, hf⟩ := pm_if hf
        obtain ⟨v112, e113, hf⟩ := pm_bd hf
        have K114 := pw_t (by decide) K97 (wfX16_copiesData (pw_rf _) e113)
        by_cases c115 : v112.1 = 0
        · have hf := pm_it hf c115
          obtain ⟨k116, hf⟩ := pm_if hf
          obtain ⟨v117, e118, hf⟩ := pm_bd hf
          have K119 := pw_t (by decide) K114 (wfX16_failsAtOnce (pw_rf _) e118)
          cases hf
          cases hi
          exact K119
        · have hf := pm_ie hf c115
          obtain ⟨k120, hf⟩ := pm_if hf
          obtain ⟨v121, e122, hf⟩ := pm_bd hf
          obtain ⟨k123, hf⟩ := pm_if hf
          obtain ⟨u124, hf⟩ := pm_if hf
          obtain ⟨y125, e126, hf⟩ := pm_lt hf
          cases hf
          exact ih.2 x0 x1 y125 (pm_setI v112.2 v121 (((64 * x1) + x2).toNatClampNeg) (vp_nar .boolean 0)) (pw_aI K114 rfl k123 (by decide) (by decide))  hi
set_option maxHeartbeats 4000000 in
set_option maxRecDepth 100000 in
theorem wfX16_startsUp {h0 h : pm_H} (K0 : pw_F WX16_startsUp h0 h) {a0 : Nat} {p1 : Int32}  {r : pm_H} (hf : fX16_startsUp h a0 p1 = some r) : pw_F WX16_startsUp h0 r := by
  unfold fX16_startsUp at hf
  obtain ⟨n, hn⟩ := pm_lim_iter hf
  exact (wlX16_startsUp n).1 a0 p1 0 h K0  hn
abbrev WX16_call : List Nat := [2058, 2067, 2093, 2124, 2126, 2127, 2128, 2129, 2131, 2133, 2141, 2142, 2143, 2144, 4096, 4352, 4480]
set_option maxHeartbeats 4000000 in
set_option maxRecDepth 100000 in
theorem wlX16_call {h0 : pm_H} {r : (Int32 × pm_H)} : ∀ n : Nat, (∀ (x0 : Nat) (x3 : Int32) (x4 : Int32) (h : pm_H), pw_F WX16_call h0 h → pm_iter sX16_call n (x0, x3, x4, h) = some r → pw_F WX16_call h0 r.2) := by
  intro n
  induction n with
  | zero => exact fun _ _ _ _ _ hf => (by cases hf)
  | succ n ih =>
    refine fun x0 x3 x4 h K0 hf => ?_
    obtain ⟨y, hf, hi⟩ := pm_iter_s hf
    have hf : tX16_call_49 x0 x3 x4 h = some y := hf
    unfold tX16_call_49 at hf
    obtain ⟨k21, hf⟩ := pm_if hf
    by_cases c22 : (pm_I h x0 81) ≤ x4
    · have hf := pm_it hf c22
      obtain ⟨v23, e24, hf⟩ := pm_bd hf
      have K25 := pw_t (by decide) (pw_sI K0 rfl k21 (by decide)) (wfX16_calls (pw_rf _) e24)
      cases hf
      cases hi
      exact K25
    · have hf := pm_ie hf c22
      obtain ⟨v26, e27, hf⟩ := pm_bd hf
      obtain ⟨v28, e29, hf⟩ := pm_bd hf
      obtain ⟨k30, hf⟩ := pm_if hf
      obtain ⟨v31, e32, hf⟩ := pm_bd hf
      obtain ⟨v33, e34, hf⟩ := pm_bd hf
      obtain ⟨k35, hf⟩ := pm_if hf
      obtain ⟨u36, hf⟩ := pm_if hf
      obtain ⟨y37, e38, hf⟩ := pm_lt hf
      obtain ⟨k39, hf⟩ := pm_if hf
      obtain ⟨u40, hf⟩ := pm_if hf
      obtain ⟨v41, e42, hf⟩ := pm_bd hf
      obtain ⟨k43, hf⟩ := pm_if hf
      obtain ⟨u44, hf⟩ := pm_if hf
      obtain ⟨v45, e46, hf⟩ := pm_lt hf
      obtain ⟨k47, hf⟩ := pm_if hf
      obtain ⟨u48, hf⟩ := pm_if hf
      obtain ⟨y49, e50, hf⟩ := pm_lt hf
      cases hf
      exact ih x0 x3 y49 (pm_setL h v26 x4.toNatClampNeg v45) (pw_aL K0 rfl k47 (by decide) (by decide))  hi
set_option maxHeartbeats 4000000 in
set_option maxRecDepth 100000 in
theorem wfX16_call {h0 h : pm_H} (K0 : pw_F WX16_call h0 h) {a0 : Nat} {p1 : Int32} {p2 : Int32}  {r : (Int32 × pm_H)} (hf : fX16_call h a0 p1 p2 = some r) : pw_F WX16_call h0 r.2 := by
  unfold fX16_call at hf
  obtain ⟨k1, hf⟩ := pm_if hf
  obtain ⟨v2, e3, hf⟩ := pm_bd hf
  by_cases c4 : v2 = 0
  · have hf := pm_it hf c4
    obtain ⟨v5, e6, hf⟩ := pm_bd hf
    by_cases c7 : v5 < 0
    · have hf := pm_it hf c7
      cases hf
      exact K0
    · have hf := pm_ie hf c7
      obtain ⟨v8, e9, hf⟩ := pm_bd hf
      by_cases c10 : v8 = (pm_I h a0 81)
      · have hf := pm_it hf c10
        obtain ⟨v11, e12, hf⟩ := pm_bd hf
        by_cases c13 : v11 = 0
        · have hf := pm_it hf c13
          cases hf
          exact K0
        · have hf := pm_ie hf c13
          obtain ⟨n, hn⟩ := pm_lim_iter hf
          exact (wlX16_call n) a0 v5 0 h K0  hn
      · have hf := pm_ie hf c10
        cases hf
        exact K0
  · have hf := pm_ie hf c4
    by_cases c14 : ((-1) : Int32) < (0 : Int32)
    · have hf := pm_it hf c14
      cases hf
      exact K0
    · have hf := pm_ie hf c14
      obtain ⟨v15, e16, hf⟩ := pm_bd hf
      by_cases c17 : v15 = (pm_I h a0 81)
      · have hf := pm_it hf c17
        obtain ⟨v18, e19, hf⟩ := pm_bd hf
        by_cases c20 : v18 = 0
        · have hf := pm_it hf c20
          cases hf
          exact K0
        · have hf := pm_ie hf c20
          obtain ⟨n, hn⟩ := pm_lim_iter hf
          exact (wlX16_call n) a0 (-1) 0 h K0  hn
      · have hf := pm_ie hf c17
        cases hf
        exact K0
abbrev WX16_operator : List Nat := [1920, 1921, 1922, 1923, 2081, 2124, 2125, 2141, 4480]
set_option maxHeartbeats 4000000 in
set_option maxRecDepth 100000 in
theorem wfX16_operator_b15 {h0 h : pm_H} (K0 : pw_F WX16_operator h0 h) {x0 : Nat} {x1 : Int32} {s0 : Int64}  {r : pm_H} (hf : fX16_operator_b15 h x0 x1 s0 = some r) : pw_F WX16_operator h0 r := by
  unfold fX16_operator_b15 at hf
  obtain ⟨k8, hf⟩ := pm_if hf
  obtain ⟨v9, e10, hf⟩ := pm_bd hf
  have K11 := pw_t (by decide) K0 (wfX16_pop (pw_rf _) e10)
  obtain ⟨k12, hf⟩ := pm_if hf
  obtain ⟨v13, e14, hf⟩ := pm_bd hf
  have K15 := pw_t (by decide) (pw_sI K11 rfl k12 (by decide)) (wfX16_reckons (pw_rf _) e14)
  obtain ⟨k16, hf⟩ := pm_if hf
  by_cases c17 : (pm_I v13.2 x0 33) ≤ 0
  · have hf := pm_it hf c17
    obtain ⟨v18, e19, hf⟩ := pm_bd hf
    have K20 := pw_t (by decide) K15 (wfX16_push (pw_rf _) e19)
    cases hf
    exact K20
  · have hf := pm_ie hf c17
    obtain ⟨v21, e22, hf⟩ := pm_bd hf
    have K23 := pw_t (by decide) K15 (wfX16_endsBy (pw_rf _) e22)
    cases hf
    exact K23
set_option maxHeartbeats 4000000 in
set_option maxRecDepth 100000 in
theorem wfX16_operator {h0 h : pm_H} (K0 : pw_F WX16_operator h0 h) {a0 : Nat} {p1 : Int32}  {r : pm_H} (hf : fX16_operator h a0 p1 = some r) : pw_F WX16_operator h0 r := by
  unfold fX16_operator at hf
  obtain ⟨v1, e2, hf⟩ := pm_lt hf
  by_cases c3 : v1 = 0
  · have hf := pm_it hf c3
    exact wfX16_operator_b15 K0  hf
  · have hf := pm_ie hf c3
    obtain ⟨k4, hf⟩ := pm_if hf
    obtain ⟨v5, e6, hf⟩ := pm_bd hf
    have K7 := pw_t (by decide) K0 (wfX16_pop (pw_rf _) e6)
    exact wfX16_operator_b15 K7  hf
abbrev WX16_furtherStep : List Nat := [1920, 1921, 1922, 1923, 2067, 2081, 2095, 2124, 2125, 2141, 4096, 4224, 4352, 4480]
set_option maxHeartbeats 4000000 in
set_option maxRecDepth 100000 in
theorem wfX16_furtherStep_b65 {h0 h : pm_H} (K0 : pw_F WX16_furtherStep h0 h) {x0 : Nat} {x1 : Int32} {x2 : Int32} {s0 : Int32}  {r : pm_H} (hf : fX16_furtherStep_b65 h x0 x1 x2 s0 = some r) : pw_F WX16_furtherStep h0 r := by
  unfold fX16_furtherStep_b65 at hf
  by_cases c22 : x1 = 9
  · have hf := pm_it hf c22
    obtain ⟨k23, hf⟩ := pm_if hf
    obtain ⟨v24, e25, hf⟩ := pm_bd hf
    obtain ⟨k26, hf⟩ := pm_if hf
    obtain ⟨u27, hf⟩ := pm_if hf
    cases hf
    exact (pw_aI K0 rfl k26 (by decide) (by decide))
  · have hf := pm_ie hf c22
    by_cases c28 : x1 = 13
    · have hf := pm_it hf c28
      obtain ⟨k29, hf⟩ := pm_if hf
      obtain ⟨v30, e31, hf⟩ := pm_bd hf
      have K32 := pw_t (by decide) K0 (wfX16_dropped (pw_rf _) e31)
      cases hf
      exact K32
    · have hf := pm_ie hf c28
      by_cases c33 : 12 ≤ x1
      · have hf := pm_it hf c33
        obtain ⟨k34, hf⟩ := pm_if hf
        obtain ⟨v35, e36, hf⟩ := pm_bd hf
        have K37 := pw_t (by decide) K0 (wfX16_tablesStep (pw_rf _) e36)
        cases hf
        exact K37
      · have hf := pm_ie hf c33
        obtain ⟨k38, hf⟩ := pm_if hf
        obtain ⟨v39, e40, hf⟩ := pm_bd hf
        have K41 := pw_t (by decide) K0 (wfX16_stretches (pw_rf _) e40)
        cases hf
        exact K41
set_option maxHeartbeats 4000000 in
set_option maxRecDepth 100000 in
theorem wfX16_furtherStep_b56 {h0 h : pm_H} (K0 : pw_F WX16_furtherStep h0 h) {x0 : Nat} {x1 : Int32} {x2 : Int32}  {r : pm_H} (hf : fX16_furtherStep_b56 h x0 x1 x2 = some r) : pw_F WX16_furtherStep h0 r := by
  unfold fX16_furtherStep_b56 at hf
  obtain ⟨k18, hf⟩ := pm_if hf
  obtain ⟨v19, e20, hf⟩ := pm_bd hf
  have K21 := pw_t (by decide) K0 (wfX16_word (pw_rf _) e20)
  exact wfX16_furtherStep_b65 K21  hf
set_option maxHeartbeats 4000000 in
set_option maxRecDepth 100000 in
theorem wfX16_furtherStep_b43 {h0 h : pm_H} (K0 : pw_F WX16_furtherStep h0 h) {x0 : Nat} {x1 : Int32} {s0 : Int32}  {r : pm_H} (hf : fX16_furtherStep_b43 h x0 x1 s0 = some r) : pw_F WX16_furtherStep h0 r := by
  unfold fX16_furtherStep_b43 at hf
  by_cases c16 : x1 = 12
  · have hf := pm_it hf c16
    exact wfX16_furtherStep_b56 K0  hf
  · have hf := pm_ie hf c16
    by_cases c17 : x1 = 14
    · have hf := pm_it hf c17
      exact wfX16_furtherStep_b56 K0  hf
    · have hf := pm_ie hf c17
      exact wfX16_furtherStep_b65 K0  hf
set_option maxHeartbeats 4000000 in
set_option maxRecDepth 100000 in
theorem wfX16_furtherStep_b34 {h0 h : pm_H} (K0 : pw_F WX16_furtherStep h0 h) {x0 : Nat} {x1 : Int32}  {r : pm_H} (hf : fX16_furtherStep_b34 h x0 x1 = some r) : pw_F WX16_furtherStep h0 r := by
  unfold fX16_furtherStep_b34 at hf
  exact wfX16_furtherStep_b43 K0  hf
set_option maxHeartbeats 4000000 in
set_option maxRecDepth 100000 in
theorem wfX16_furtherStep {h0 h : pm_H} (K0 : pw_F WX16_furtherStep h0 h) {a0 : Nat}  {r : pm_H} (hf : fX16_furtherStep h a0 = some r) : pw_F WX16_furtherStep h0 r := by
  unfold fX16_furtherStep at hf
  obtain ⟨k1, hf⟩ := pm_if hf
  obtain ⟨v2, e3, hf⟩ := pm_bd hf
  have K4 := pw_t (by decide) K0 (wfX16_word (pw_rf _) e3)
  by_cases c5 : 8 ≤ v2.1.toInt32
  · have hf := pm_it hf c5
    by_cases c6 : v2.1.toInt32 = 10
    · have hf := pm_it hf c6
      exact wfX16_furtherStep_b34 K4  hf
    · have hf := pm_ie hf c6
      by_cases c7 : v2.1.toInt32 = 11
      · have hf := pm_it hf c7
        exact wfX16_furtherStep_b34 K4  hf
      · have hf := pm_ie hf c7
        obtain ⟨k8, hf⟩ := pm_if hf
        obtain ⟨v9, e10, hf⟩ := pm_bd hf
        have K11 := pw_t (by decide) K4 (wfX16_word (pw_rf _) e10)
        exact wfX16_furtherStep_b43 K11  hf
  · have hf := pm_ie hf c5
    obtain ⟨k12, hf⟩ := pm_if hf
    obtain ⟨v13, e14, hf⟩ := pm_bd hf
    have K15 := pw_t (by decide) K4 (wfX16_operator (pw_rf _) e14)
    cases hf
    exact K15
abbrev WX16_step : List Nat := [1920, 1921, 1922, 1923, 2058, 2067, 2081, 2093, 2095, 2101, 2124, 2125, 2126, 2127, 2128, 2131, 2133, 2141, 2142, 2143, 2144, 4096, 4224, 4352, 4480]
set_option maxHeartbeats 4000000 in
set_option maxRecDepth 100000 in
theorem wfX16_step_b61 {h0 h : pm_H} (K0 : pw_F WX16_step h0 h) {x0 : Nat} {x1 : Int32} {x2 : Int32}  {r : pm_H} (hf : fX16_step_b61 h x0 x1 x2 = some r) : pw_F WX16_step h0 r := by
  unfold fX16_step_b61 at hf
  by_cases c26 : 32 ≤ x2
  · have hf := pm_it hf c26
    by_cases c27 : 40 ≤ x2
    · have hf := pm_it hf c27
      by_cases c28 : 63 ≤ x2
      · have hf := pm_it hf c28
        by_cases c29 : x2 = 252
        · have hf := pm_it hf c29
          obtain ⟨k30, hf⟩ := pm_if hf
          obtain ⟨v31, e32, hf⟩ := pm_bd hf
          have K33 := pw_t (by decide) K0 (wfX16_furtherStep (pw_rf _) e32)
          obtain ⟨k34, hf⟩ := pm_if hf
          obtain ⟨v35, e36, hf⟩ := pm_bd hf
          have K37 := pw_t (by decide) K33 (wfX16_goesOn (pw_rf _) e36)
          cases hf
          exact K37
        · have hf := pm_ie hf c29
          obtain ⟨k38, hf⟩ := pm_if hf
          obtain ⟨v39, e40, hf⟩ := pm_bd hf
          have K41 := pw_t (by decide) K0 (wfX16_others (pw_rf _) e40)
          obtain ⟨k42, hf⟩ := pm_if hf
          obtain ⟨v43, e44, hf⟩ := pm_bd hf
          have K45 := pw_t (by decide) K41 (wfX16_goesOn (pw_rf _) e44)
          cases hf
          exact K45
      · have hf := pm_ie hf c28
        obtain ⟨k46, hf⟩ := pm_if hf
        obtain ⟨v47, e48, hf⟩ := pm_bd hf
        have K49 := pw_t (by decide) K0 (wfX16_accesses1 (pw_rf _) e48)
        obtain ⟨k50, hf⟩ := pm_if hf
        obtain ⟨v51, e52, hf⟩ := pm_bd hf
        have K53 := pw_t (by decide) K49 (wfX16_goesOn (pw_rf _) e52)
        cases hf
        exact K53
    · have hf := pm_ie hf c27
      obtain ⟨k54, hf⟩ := pm_if hf
      obtain ⟨v55, e56, hf⟩ := pm_bd hf
      have K57 := pw_t (by decide) K0 (wfX16_moves (pw_rf _) e56)
      obtain ⟨k58, hf⟩ := pm_if hf
      obtain ⟨v59, e60, hf⟩ := pm_bd hf
      have K61 := pw_t (by decide) K57 (wfX16_goesOn (pw_rf _) e60)
      cases hf
      exact K61
  · have hf := pm_ie hf c26
    obtain ⟨k62, hf⟩ := pm_if hf
    obtain ⟨v63, e64, hf⟩ := pm_bd hf
    have K65 := pw_t (by decide) K0 (wfX16_turns (pw_rf _) e64)
    obtain ⟨k66, hf⟩ := pm_if hf
    obtain ⟨v67, e68, hf⟩ := pm_bd hf
    have K69 := pw_t (by decide) K65 (wfX16_goesOn (pw_rf _) e68)
    cases hf
    exact K69
set_option maxHeartbeats 4000000 in
set_option maxRecDepth 100000 in
theorem wfX16_step {h0 h : pm_H} (K0 : pw_F WX16_step h0 h) {a0 : Nat}  {r : pm_H} (hf : fX16_step h a0 = some r) : pw_F WX16_step h0 r := by
  unfold fX16_step at hf
  obtain ⟨k1, hf⟩ := pm_if hf
  obtain ⟨y2, e3, hf⟩ := pm_lt hf
  obtain ⟨v4, e5, hf⟩ := pm_bd hf
  obtain ⟨k6, hf⟩ := pm_if hf
  obtain ⟨v7, e8, hf⟩ := pm_bd hf
  obtain ⟨y9, e10, hf⟩ := pm_lt hf
  obtain ⟨v11, e12, hf⟩ := pm_bd hf
  have K13 := pw_t (by decide) (pw_sI K0 rfl k1 (by decide)) (wfX16_behind (pw_rf _) e12)
  obtain ⟨k14, hf⟩ := pm_if hf
  obtain ⟨y15, e16, hf⟩ := pm_lt hf
  by_cases c17 : v7 < 69
  · have hf := pm_it hf c17
    exact wfX16_step_b61 (pw_sI (pw_sI K13 rfl k14 (by decide)) (pkI rfl) k14 (by decide))  hf
  · have hf := pm_ie hf c17
    by_cases c18 : 196 < v7
    · have hf := pm_it hf c18
      exact wfX16_step_b61 (pw_sI (pw_sI K13 rfl k14 (by decide)) (pkI rfl) k14 (by decide))  hf
    · have hf := pm_ie hf c18
      obtain ⟨v19, e20, hf⟩ := pm_bd hf
      have K21 := pw_t (by decide) (pw_sI (pw_sI K13 rfl k14 (by decide)) (pkI rfl) k14 (by decide)) (wfX16_operator (pw_rf _) e20)
      obtain ⟨k22, hf⟩ := pm_if hf
      obtain ⟨v23, e24, hf⟩ := pm_bd hf
      have K25 := pw_t (by decide) K21 (wfX16_goesOn (pw_rf _) e24)
      cases hf
      exact K25
abbrev WX16_run : List Nat := [1920, 1921, 1922, 1923, 2058, 2067, 2081, 2093, 2095, 2101, 2124, 2125, 2126, 2127, 2128, 2131, 2133, 2141, 2142, 2143, 2144, 4096, 4224, 4352, 4480]
set_option maxHeartbeats 4000000 in
set_option maxRecDepth 100000 in
theorem wlX16_run {h0 : pm_H} {r : (Int32 × pm_H)} : ∀ n : Nat, (∀ (x0 : Nat) (x1 : Int32) (x2 : Int32) (h : pm_H), pw_F WX16_run h0 h → pm_iter sX16_run n (x0, x1, x2, h) = some r → pw_F WX16_run h0 r.2) := by
  intro n
  induction n with
  | zero => exact fun _ _ _ _ _ hf => (by cases hf)
  | succ n ih =>
    refine fun x0 x1 x2 h K0 hf => ?_
    obtain ⟨y, hf, hi⟩ := pm_iter_s hf
    have hf : tX16_run_15 x0 x1 x2 h = some y := hf
    unfold tX16_run_15 at hf
    obtain ⟨k3, hf⟩ := pm_if hf
    by_cases c4 : (pm_I h x0 76) = 1
    · have hf := pm_it hf c4
      by_cases c5 : x1 ≤ x2
      · have hf := pm_it hf c5
        cases hf
        cases hi
        exact K0
      · have hf := pm_ie hf c5
        obtain ⟨v6, e7, hf⟩ := pm_bd hf
        have K8 := pw_t (by decide) K0 (wfX16_step (pw_rf _) e7)
        obtain ⟨y9, e10, hf⟩ := pm_lt hf
        cases hf
        exact ih x0 x1 y9 v6 K8  hi
    · have hf := pm_ie hf c4
      cases hf
      cases hi
      exact K0
set_option maxHeartbeats 4000000 in
set_option maxRecDepth 100000 in
theorem wfX16_run {h0 h : pm_H} (K0 : pw_F WX16_run h0 h) {a0 : Nat} {p1 : Int32}  {r : (Int32 × pm_H)} (hf : fX16_run h a0 p1 = some r) : pw_F WX16_run h0 r.2 := by
  unfold fX16_run at hf
  by_cases c1 : p1 < 0
  · have hf := pm_it hf c1
    cases hf
    exact K0
  · have hf := pm_ie hf c1
    by_cases c2 : p1 ≤ 100000
    · have hf := pm_it hf c2
      obtain ⟨n, hn⟩ := pm_lim_iter hf
      exact (wlX16_run n) a0 p1 0 h K0  hn
    · have hf := pm_ie hf c2
      cases hf
      exact K0
abbrev WX16_stops : List Nat := [2055, 2056]
set_option maxHeartbeats 4000000 in
set_option maxRecDepth 100000 in
theorem wfX16_stops {h0 h : pm_H} (K0 : pw_F WX16_stops h0 h) {a0 : Nat} {p1 : Int32} {p2 : Int32}  {r : ((Nat × pm_H) ⊕ pm_H)} (hf : fX16_stops h a0 p1 p2 = some r) : pt_WV WX16_stops h0 r := by
  unfold fX16_stops at hf
  obtain ⟨k1, hf⟩ := pm_if hf
  obtain ⟨v2, e3, hf⟩ := pm_bd hf
  cases hf
  exact (pw_sI (pw_sI K0 rfl k1 (by decide)) (pkI rfl) k1 (by decide))
abbrev WX16_take : List Nat := [2055, 2056, 2071]
set_option maxHeartbeats 4000000 in
set_option maxRecDepth 100000 in
theorem wfX16_take {h0 h : pm_H} (K0 : pw_F WX16_take h0 h) {a0 : Nat} {p1 : Int32}  {r : ((Nat × pm_H) ⊕ (Int32 × pm_H))} (hf : fX16_take h a0 p1 = some r) : pt_WI WX16_take h0 r := by
  unfold fX16_take at hf
  obtain ⟨k1, hf⟩ := pm_if hf
  obtain ⟨y2, e3, hf⟩ := pm_lt hf
  obtain ⟨v4, e5, hf⟩ := pm_bd hf
  obtain ⟨k6, hf⟩ := pm_if hf
  obtain ⟨u7, hf⟩ := pm_if hf
  by_cases c8 : (pm_I h a0 23) = (pm_I h v4 y2.toNatClampNeg)
  · have hf := pm_it hf c8
    obtain ⟨v9, e10, hf⟩ := pm_bd hf
    obtain ⟨k11, hf⟩ := pm_if hf
    obtain ⟨u12, hf⟩ := pm_if hf
    by_cases c13 : (pm_I h v9 y2.toNatClampNeg) = 0
    · have hf := pm_it hf c13
      obtain ⟨v14, e15, hf⟩ := pm_bd hf
      rcases v14 with z17 | w16
      · have hf := pt_kl hf
        cases hf
        exact pw_t (by decide) K0 (show pw_F _ _ z17.2 from wfX16_stops (pw_rf _) e15)
      have K18 := pw_t (by decide) K0 (show pw_F _ _ w16 from wfX16_stops (pw_rf _) e15)
      have hf := pt_kr hf
      cases hf
      exact K18
    · have hf := pm_ie hf c13
      cases hf
      exact K0
  · have hf := pm_ie hf c8
    obtain ⟨y19, e20, hf⟩ := pm_lt hf
    obtain ⟨v21, e22, hf⟩ := pm_bd hf
    obtain ⟨y23, e24, hf⟩ := pm_lt hf
    obtain ⟨k25, hf⟩ := pm_if hf
    have k25b := (congrFun (pkI rfl) v21).symm.trans k25
    obtain ⟨u26, hf⟩ := pm_if hf
    obtain ⟨y27, e28, hf⟩ := pm_lt hf
    by_cases c29 : p1 = 0
    · have hf := pm_it hf c29
      cases hf
      exact (pw_sI K0 rfl k1 (by decide))
    · have hf := pm_ie hf c29
      by_cases c30 : y27 = (-1)
      · have hf := pm_it hf c30
        cases hf
        exact (pw_sI K0 rfl k1 (by decide))
      · have hf := pm_ie hf c30
        by_cases c31 : y27 = p1
        · have hf := pm_it hf c31
          cases hf
          exact (pw_sI K0 rfl k1 (by decide))
        · have hf := pm_ie hf c31
          obtain ⟨v32, e33, hf⟩ := pm_bd hf
          rcases v32 with z35 | w34
          · have hf := pt_kl hf
            cases hf
            exact pw_t (by decide) (pw_sI K0 rfl k1 (by decide)) (show pw_F _ _ z35.2 from wfX16_stops (pw_rf _) e33)
          have K36 := pw_t (by decide) (pw_sI K0 rfl k1 (by decide)) (show pw_F _ _ w34 from wfX16_stops (pw_rf _) e33)
          have hf := pt_kr hf
          cases hf
          exact K36
abbrev WX16_takeParameters : List Nat := [2055, 2056, 2071]
set_option maxHeartbeats 4000000 in
set_option maxRecDepth 100000 in
theorem wlX16_takeParameters {h0 : pm_H} {r : ((Nat × pm_H) ⊕ pm_H)} : ∀ n : Nat, (∀ (x0 : Nat) (x1 : Int64) (x3 : Int32) (h : pm_H), pw_F WX16_takeParameters h0 h → pm_iter sX16_takeParameters n (x0, x1, x3, h) = some r → pt_WV WX16_takeParameters h0 r) := by
  intro n
  induction n with
  | zero => exact fun _ _ _ _ _ hf => (by cases hf)
  | succ n ih =>
    refine fun x0 x1 x3 h K0 hf => ?_
    obtain ⟨y, hf, hi⟩ := pm_iter_s hf
    have hf : tX16_takeParameters_8 x0 x1 x3 h = some y := hf
    unfold tX16_takeParameters_8 at hf
    by_cases c6 : x3 < 0
    · have hf := pm_it hf c6
      cases hf
      cases hi
      exact K0
    · have hf := pm_ie hf c6
      obtain ⟨k7, hf⟩ := pm_if hf
      obtain ⟨v8, e9, hf⟩ := pm_bd hf
      obtain ⟨v10, e11, hf⟩ := pm_bd hf
      rcases v10 with z13 | w12
      · have hf := pt_sl hf
        cases hf
        cases hi
        exact pw_t (by decide) K0 (show pw_F _ _ z13.2 from wfX16_take (pw_rf _) e11)
      have K14 := pw_t (by decide) K0 (show pw_F _ _ w12.2 from wfX16_take (pw_rf _) e11)
      have hf := pt_sr hf
      obtain ⟨y15, e16, hf⟩ := pm_lt hf
      cases hf
      exact ih x0 x1 y15 w12.2 K14  hi
set_option maxHeartbeats 4000000 in
set_option maxRecDepth 100000 in
theorem wfX16_takeParameters {h0 h : pm_H} (K0 : pw_F WX16_takeParameters h0 h) {a0 : Nat} {p1 : Int64}  {r : ((Nat × pm_H) ⊕ pm_H)} (hf : fX16_takeParameters h a0 p1 = some r) : pt_WV WX16_takeParameters h0 r := by
  unfold fX16_takeParameters at hf
  obtain ⟨k1, hf⟩ := pm_if hf
  obtain ⟨v2, e3, hf⟩ := pm_bd hf
  obtain ⟨y4, e5, hf⟩ := pm_lt hf
  obtain ⟨n, hn⟩ := pm_lim_iter hf
  exact (wlX16_takeParameters n) a0 p1 y4 h K0  hn
abbrev WX16_takeResults : List Nat := [2055, 2056, 2071]
set_option maxHeartbeats 4000000 in
set_option maxRecDepth 100000 in
theorem wlX16_takeResults {h0 : pm_H} {r : ((Nat × pm_H) ⊕ pm_H)} : ∀ n : Nat, (∀ (x0 : Nat) (x1 : Int64) (x3 : Int32) (h : pm_H), pw_F WX16_takeResults h0 h → pm_iter sX16_takeResults n (x0, x1, x3, h) = some r → pt_WV WX16_takeResults h0 r) := by
  intro n
  induction n with
  | zero => exact fun _ _ _ _ _ hf => (by cases hf)
  | succ n ih =>
    refine fun x0 x1 x3 h K0 hf => ?_
    obtain ⟨y, hf, hi⟩ := pm_iter_s hf
    have hf : tX16_takeResults_8 x0 x1 x3 h = some y := hf
    unfold tX16_takeResults_8 at hf
    by_cases c6 : x3 < 0
    · have hf := pm_it hf c6
      cases hf
      cases hi
      exact K0
    · have hf := pm_ie hf c6
      obtain ⟨k7, hf⟩ := pm_if hf
      obtain ⟨v8, e9, hf⟩ := pm_bd hf
      obtain ⟨v10, e11, hf⟩ := pm_bd hf
      rcases v10 with z13 | w12
      · have hf := pt_sl hf
        cases hf
        cases hi
        exact pw_t (by decide) K0 (show pw_F _ _ z13.2 from wfX16_take (pw_rf _) e11)
      have K14 := pw_t (by decide) K0 (show pw_F _ _ w12.2 from wfX16_take (pw_rf _) e11)
      have hf := pt_sr hf
      obtain ⟨y15, e16, hf⟩ := pm_lt hf
      cases hf
      exact ih x0 x1 y15 w12.2 K14  hi
set_option maxHeartbeats 4000000 in
set_option maxRecDepth 100000 in
theorem wfX16_takeResults {h0 h : pm_H} (K0 : pw_F WX16_takeResults h0 h) {a0 : Nat} {p1 : Int64}  {r : ((Nat × pm_H) ⊕ pm_H)} (hf : fX16_takeResults h a0 p1 = some r) : pt_WV WX16_takeResults h0 r := by
  unfold fX16_takeResults at hf
  obtain ⟨k1, hf⟩ := pm_if hf
  obtain ⟨v2, e3, hf⟩ := pm_bd hf
  obtain ⟨y4, e5, hf⟩ := pm_lt hf
  obtain ⟨n, hn⟩ := pm_lim_iter hf
  exact (wlX16_takeResults n) a0 p1 y4 h K0  hn
abbrev WX16_takeWanted : List Nat := [2055, 2056, 2071]
set_option maxHeartbeats 4000000 in
set_option maxRecDepth 100000 in
theorem wlX16_takeWanted {h0 : pm_H} {r : ((Nat × pm_H) ⊕ pm_H)} : ∀ n : Nat, (∀ (x0 : Nat) (x1 : Int32) (x2 : Int32) (h : pm_H), pw_F WX16_takeWanted h0 h → pm_iter sX16_takeWanted n (x0, x1, x2, h) = some r → pt_WV WX16_takeWanted h0 r) := by
  intro n
  induction n with
  | zero => exact fun _ _ _ _ _ hf => (by cases hf)
  | succ n ih =>
    refine fun x0 x1 x2 h K0 hf => ?_
    obtain ⟨y, hf, hi⟩ := pm_iter_s hf
    have hf : tX16_takeWanted_8 x0 x1 x2 h = some y := hf
    unfold tX16_takeWanted_8 at hf
    by_cases c6 : x2 < 0
    · have hf := pm_it hf c6
      cases hf
      cases hi
      exact K0
    · have hf := pm_ie hf c6
      obtain ⟨k7, hf⟩ := pm_if hf
      obtain ⟨v8, e9, hf⟩ := pm_bd hf
      obtain ⟨v10, e11, hf⟩ := pm_bd hf
      rcases v10 with z13 | w12
      · have hf := pt_sl hf
        cases hf
        cases hi
        exact pw_t (by decide) K0 (show pw_F _ _ z13.2 from wfX16_take (pw_rf _) e11)
      have K14 := pw_t (by decide) K0 (show pw_F _ _ w12.2 from wfX16_take (pw_rf _) e11)
      have hf := pt_sr hf
      obtain ⟨y15, e16, hf⟩ := pm_lt hf
      cases hf
      exact ih x0 x1 y15 w12.2 K14  hi
set_option maxHeartbeats 4000000 in
set_option maxRecDepth 100000 in
theorem wfX16_takeWanted {h0 h : pm_H} (K0 : pw_F WX16_takeWanted h0 h) {a0 : Nat} {p1 : Int32}  {r : ((Nat × pm_H) ⊕ pm_H)} (hf : fX16_takeWanted h a0 p1 = some r) : pt_WV WX16_takeWanted h0 r := by
  unfold fX16_takeWanted at hf
  obtain ⟨k1, hf⟩ := pm_if hf
  obtain ⟨v2, e3, hf⟩ := pm_bd hf
  obtain ⟨y4, e5, hf⟩ := pm_lt hf
  obtain ⟨n, hn⟩ := pm_lim_iter hf
  exact (wlX16_takeWanted n) a0 p1 y4 h K0  hn
abbrev WX16_takes : List Nat := [2055, 2056, 2071]
set_option maxHeartbeats 4000000 in
set_option maxRecDepth 100000 in
theorem wlX16_takes {h0 : pm_H} {r : ((Nat × pm_H) ⊕ pm_H)} : ∀ n : Nat, (∀ (x0 : Nat) (x1 : Int32) (x2 : Int32) (x3 : Int32) (h : pm_H), pw_F WX16_takes h0 h → pm_iter sX16_takes n (x0, x1, x2, x3, h) = some r → pt_WV WX16_takes h0 r) := by
  intro n
  induction n with
  | zero => exact fun _ _ _ _ _ _ hf => (by cases hf)
  | succ n ih =>
    refine fun x0 x1 x2 x3 h K0 hf => ?_
    obtain ⟨y, hf, hi⟩ := pm_iter_s hf
    have hf : tX16_takes_2 x0 x1 x2 x3 h = some y := hf
    unfold tX16_takes_2 at hf
    by_cases c1 : x2 ≤ x3
    · have hf := pm_it hf c1
      cases hf
      cases hi
      exact K0
    · have hf := pm_ie hf c1
      obtain ⟨k2, hf⟩ := pm_if hf
      obtain ⟨v3, e4, hf⟩ := pm_bd hf
      rcases v3 with z6 | w5
      · have hf := pt_sl hf
        cases hf
        cases hi
        exact pw_t (by decide) K0 (show pw_F _ _ z6.2 from wfX16_take (pw_rf _) e4)
      have K7 := pw_t (by decide) K0 (show pw_F _ _ w5.2 from wfX16_take (pw_rf _) e4)
      have hf := pt_sr hf
      obtain ⟨y8, e9, hf⟩ := pm_lt hf
      cases hf
      exact ih x0 x1 x2 y8 w5.2 K7  hi
set_option maxHeartbeats 4000000 in
set_option maxRecDepth 100000 in
theorem wfX16_takes {h0 h : pm_H} (K0 : pw_F WX16_takes h0 h) {a0 : Nat} {p1 : Int32} {p2 : Int32}  {r : ((Nat × pm_H) ⊕ pm_H)} (hf : fX16_takes h a0 p1 p2 = some r) : pt_WV WX16_takes h0 r := by
  unfold fX16_takes at hf
  obtain ⟨n, hn⟩ := pm_lim_iter hf
  exact (wlX16_takes n) a0 p1 p2 0 h K0  hn
abbrev WX16_begins : List Nat := [2055, 2056, 2072, 4096, 4352, 4480]
set_option maxHeartbeats 4000000 in
set_option maxRecDepth 100000 in
theorem wfX16_begins_b20 {h0 h : pm_H} (K0 : pw_F WX16_begins h0 h) {x0 : Nat} {x1 : Int32} {x2 : Int64}  {r : ((Nat × pm_H) ⊕ pm_H)} (hf : fX16_begins_b20 h x0 x1 x2 = some r) : pt_WV WX16_begins h0 r := by
  unfold fX16_begins_b20 at hf
  obtain ⟨k8, hf⟩ := pm_if hf
  obtain ⟨v9, e10, hf⟩ := pm_bd hf
  obtain ⟨k11, hf⟩ := pm_if hf
  obtain ⟨u12, hf⟩ := pm_if hf
  obtain ⟨v13, e14, hf⟩ := pm_bd hf
  obtain ⟨k15, hf⟩ := pm_if hf
  have k15b := (congrFun (pkI rfl) v13).symm.trans k15
  obtain ⟨u16, hf⟩ := pm_if hf
  obtain ⟨v17, e18, hf⟩ := pm_bd hf
  obtain ⟨y19, e20, hf⟩ := pm_lt hf
  obtain ⟨k21, hf⟩ := pm_if hf
  have k21b := (congrFun (pkL (pkI rfl)) v17).symm.trans k21
  obtain ⟨u22, hf⟩ := pm_if hf
  obtain ⟨v23, e24, hf⟩ := pm_bd hf
  obtain ⟨k25, hf⟩ := pm_if hf
  have k25b := (congrFun (pkI (pkL (pkI rfl))) v23).symm.trans k25
  obtain ⟨u26, hf⟩ := pm_if hf
  obtain ⟨y27, e28, hf⟩ := pm_lt hf
  cases hf
  exact (pw_sI (pw_aI (pw_aI (pw_aL (pw_aI K0 rfl k11 (by decide) (by decide)) (pkI rfl) k15b (by decide) (by decide)) (pkL (pkI rfl)) k21b (by decide) (by decide)) (pkI (pkL (pkI rfl))) k25b (by decide) (by decide)) (pkI (pkI (pkL (pkI rfl)))) k8 (by decide))
set_option maxHeartbeats 4000000 in
set_option maxRecDepth 100000 in
theorem wfX16_begins {h0 h : pm_H} (K0 : pw_F WX16_begins h0 h) {a0 : Nat} {p1 : Int32} {p2 : Int64}  {r : ((Nat × pm_H) ⊕ pm_H)} (hf : fX16_begins h a0 p1 p2 = some r) : pt_WV WX16_begins h0 r := by
  unfold fX16_begins at hf
  obtain ⟨k1, hf⟩ := pm_if hf
  by_cases c2 : (pm_I h a0 24) = 200
  · have hf := pm_it hf c2
    obtain ⟨v3, e4, hf⟩ := pm_bd hf
    rcases v3 with z6 | w5
    · have hf := pt_kl hf
      cases hf
      exact pw_t (by decide) K0 (show pw_F _ _ z6.2 from wfX16_stops (pw_rf _) e4)
    have K7 := pw_t (by decide) K0 (show pw_F _ _ w5 from wfX16_stops (pw_rf _) e4)
    have hf := pt_kr hf
    exact wfX16_begins_b20 K7  hf
  · have hf := pm_ie hf c2
    exact wfX16_begins_b20 K0  hf
abbrev WX16_character : List Nat := [2055, 2056]
set_option maxHeartbeats 4000000 in
set_option maxRecDepth 100000 in
theorem wlX16_character {h0 : pm_H} {r : ((Nat × pm_H) ⊕ (Int32 × pm_H))} : ∀ n : Nat, (∀ (x0 : Nat) (x1 : Int32) (x2 : Int32) (x3 : Int32) (h : pm_H), pw_F WX16_character h0 h → pm_iter sX16_character n (.inl (x0, x1, x2, x3, h)) = some r → pt_WI WX16_character h0 r) ∧ (∀ (x0 : Nat) (x1 : Int32) (x2 : Int32) (x3 : Int32) (s0 : Int32) (h : pm_H), pw_F WX16_character h0 h → pm_iter sX16_character n (.inr (.inl (x0, x1, x2, x3, s0, h))) = some r → pt_WI WX16_character h0 r) ∧ (∀ (x0 : Nat) (x1 : Int32) (x3 : Int32) (x4 : Int32) (h : pm_H), pw_F WX16_character h0 h → pm_iter sX16_character n (.inr (.inr (.inl (x0, x1, x3, x4, h)))) = some r → pt_WI WX16_character h0 r) ∧ (∀ (x0 : Nat) (x1 : Int32) (x4 : Int32) (x5 : Int32) (x6 : Int32) (h : pm_H), pw_F WX16_character h0 h → pm_iter sX16_character n (.inr (.inr (.inr (.inl (x0, x1, x4, x5, x6, h))))) = some r → pt_WI WX16_character h0 r) ∧ (∀ (x0 : Nat) (x1 : Int32) (x4 : Int32) (h : pm_H), pw_F WX16_character h0 h → pm_iter sX16_character n (.inr (.inr (.inr (.inr (.inl (x0, x1, x4, h)))))) = some r → pt_WI WX16_character h0 r) ∧ (∀ (x0 : Nat) (x1 : Int32) (x4 : Int32) (x5 : Int32) (h : pm_H), pw_F WX16_character h0 h → pm_iter sX16_character n (.inr (.inr (.inr (.inr (.inr (.inl (x0, x1, x4, x5, h))))))) = some r → pt_WI WX16_character h0 r) ∧ (∀ (x0 : Nat) (x1 : Int32) (x4 : Int32) (x5 : Int32) (h : pm_H), pw_F WX16_character h0 h → pm_iter sX16_character n (.inr (.inr (.inr (.inr (.inr (.inr (.inl (x0, x1, x4, x5, h)))))))) = some r → pt_WI WX16_character h0 r) ∧ (∀ (x0 : Nat) (x1 : Int32) (x4 : Int32) (h : pm_H), pw_F WX16_character h0 h → pm_iter sX16_character n (.inr (.inr (.inr (.inr (.inr (.inr (.inr (x0, x1, x4, h)))))))) = some r → pt_WI WX16_character h0 r) := by
  intro n
  induction n with
  | zero => exact ⟨fun _ _ _ _ _ _ hf => (by cases hf), fun _ _ _ _ _ _ _ hf => (by cases hf), fun _ _ _ _ _ _ hf => (by cases hf), fun _ _ _ _ _ _ _ hf => (by cases hf), fun _ _ _ _ _ hf => (by cases hf), fun _ _ _ _ _ _ hf => (by cases hf), fun _ _ _ _ _ _ hf => (by cases hf), fun _ _ _ _ _ hf => (by cases hf)⟩
  | succ n ih =>
    refine ⟨fun x0 x1 x2 x3 h K0 hf => ?_, ?_⟩
    · obtain ⟨y, hf, hi⟩ := pm_iter_s hf
      have hf : tX16_character_38 x0 x1 x2 x3 h = some y := hf
      unfold tX16_character_38 at hf
      by_cases c10 : x3 < 224
      · have hf := pm_it hf c10
        by_cases c11 : x3 < 240
        · have hf := pm_it hf c11
          cases hf
          exact ih.2.1 x0 x1 x2 x3 9 h K0  hi
        · have hf := pm_ie hf c11
          by_cases c12 : 248 ≤ x3
          · have hf := pm_it hf c12
            cases hf
            exact ih.2.1 x0 x1 x2 x3 9 h K0  hi
          · have hf := pm_ie hf c12
            cases hf
            exact ih.2.1 x0 x1 x2 x3 3 h K0  hi
      · have hf := pm_ie hf c10
        by_cases c13 : 240 ≤ x3
        · have hf := pm_it hf c13
          by_cases c14 : x3 < 240
          · have hf := pm_it hf c14
            cases hf
            exact ih.2.1 x0 x1 x2 x3 9 h K0  hi
          · have hf := pm_ie hf c14
            by_cases c15 : 248 ≤ x3
            · have hf := pm_it hf c15
              cases hf
              exact ih.2.1 x0 x1 x2 x3 9 h K0  hi
            · have hf := pm_ie hf c15
              cases hf
              exact ih.2.1 x0 x1 x2 x3 3 h K0  hi
        · have hf := pm_ie hf c13
          cases hf
          exact ih.2.1 x0 x1 x2 x3 2 h K0  hi
    refine ⟨fun x0 x1 x2 x3 s0 h K0 hf => ?_, ?_⟩
    · obtain ⟨y, hf, hi⟩ := pm_iter_s hf
      have hf : tX16_character_76 x0 x1 x2 x3 s0 h = some y := hf
      unfold tX16_character_76 at hf
      by_cases c16 : (x1 + s0) < x2
      · have hf := pm_it hf c16
        cases hf
        exact ih.2.2.1 x0 x1 x3 s0 h K0  hi
      · have hf := pm_ie hf c16
        obtain ⟨k17, hf⟩ := pm_if hf
        obtain ⟨v18, e19, hf⟩ := pm_bd hf
        rcases v18 with z21 | w20
        · have hf := pt_sl hf
          cases hf
          cases hi
          exact pw_t (by decide) K0 (show pw_F _ _ z21.2 from wfX16_stops (pw_rf _) e19)
        have K22 := pw_t (by decide) K0 (show pw_F _ _ w20 from wfX16_stops (pw_rf _) e19)
        have hf := pt_sr hf
        cases hf
        exact ih.2.2.1 x0 x1 x3 s0 w20 K22  hi
    refine ⟨fun x0 x1 x3 x4 h K0 hf => ?_, ?_⟩
    · obtain ⟨y, hf, hi⟩ := pm_iter_s hf
      have hf : tX16_character_93 x0 x1 x3 x4 h = some y := hf
      unfold tX16_character_93 at hf
      by_cases c23 : x4 = 0
      · have hf := pm_it hf c23
        cases hf
        exact ih.2.2.2.1 x0 x1 x4 x3 1 h K0  hi
      · have hf := pm_ie hf c23
        by_cases c24 : x4 = 1
        · have hf := pm_it hf c24
          obtain ⟨y25, e26, hf⟩ := pm_lt hf
          cases hf
          exact ih.2.2.2.1 x0 x1 x4 y25 1 h K0  hi
        · have hf := pm_ie hf c24
          by_cases c27 : x4 = 2
          · have hf := pm_it hf c27
            obtain ⟨y28, e29, hf⟩ := pm_lt hf
            cases hf
            exact ih.2.2.2.1 x0 x1 x4 y28 1 h K0  hi
          · have hf := pm_ie hf c27
            obtain ⟨y30, e31, hf⟩ := pm_lt hf
            cases hf
            exact ih.2.2.2.1 x0 x1 x4 y30 1 h K0  hi
    refine ⟨fun x0 x1 x4 x5 x6 h K0 hf => ?_, ?_⟩
    · obtain ⟨y, hf, hi⟩ := pm_iter_s hf
      have hf : tX16_character_137 x0 x1 x4 x5 x6 h = some y := hf
      unfold tX16_character_137 at hf
      by_cases c32 : x4 < x6
      · have hf := pm_it hf c32
        by_cases c33 : x4 = 0
        · have hf := pm_it hf c33
          cases hf
          exact ih.2.2.2.2.1 x0 x1 x4 h K0  hi
        · have hf := pm_ie hf c33
          by_cases c34 : x4 = 1
          · have hf := pm_it hf c34
            by_cases c35 : 128 ≤ x5
            · have hf := pm_it hf c35
              cases hf
              exact ih.2.2.2.2.1 x0 x1 x4 h K0  hi
            · have hf := pm_ie hf c35
              cases hf
              exact ih.2.2.2.2.2.1 x0 x1 x4 x5 h K0  hi
          · have hf := pm_ie hf c34
            cases hf
            exact ih.2.2.2.2.2.1 x0 x1 x4 x5 h K0  hi
      · have hf := pm_ie hf c32
        obtain ⟨k36, hf⟩ := pm_if hf
        obtain ⟨v37, e38, hf⟩ := pm_bd hf
        obtain ⟨k39, hf⟩ := pm_if hf
        obtain ⟨v40, e41, hf⟩ := pm_bd hf
        by_cases c42 : (v40 >>> ((6 : Int32) &&& 31)) = 2
        · have hf := pm_it hf c42
          obtain ⟨y43, e44, hf⟩ := pm_lt hf
          obtain ⟨y45, e46, hf⟩ := pm_lt hf
          cases hf
          exact ih.2.2.2.1 x0 x1 x4 y43 y45 h K0  hi
        · have hf := pm_ie hf c42
          obtain ⟨v47, e48, hf⟩ := pm_bd hf
          rcases v47 with z50 | w49
          · have hf := pt_sl hf
            cases hf
            cases hi
            exact pw_t (by decide) K0 (show pw_F _ _ z50.2 from wfX16_stops (pw_rf _) e48)
          have K51 := pw_t (by decide) K0 (show pw_F _ _ w49 from wfX16_stops (pw_rf _) e48)
          have hf := pt_sr hf
          obtain ⟨y52, e53, hf⟩ := pm_lt hf
          obtain ⟨y54, e55, hf⟩ := pm_lt hf
          cases hf
          exact ih.2.2.2.1 x0 x1 x4 y52 y54 w49 K51  hi
    refine ⟨fun x0 x1 x4 h K0 hf => ?_, ?_⟩
    · obtain ⟨y, hf, hi⟩ := pm_iter_s hf
      have hf : tX16_character_263 x0 x1 x4 h = some y := hf
      unfold tX16_character_263 at hf
      by_cases c56 : (1 : Int32) = (0 : Int32)
      · have hf := pm_it hf c56
        obtain ⟨k57, hf⟩ := pm_if hf
        obtain ⟨v58, e59, hf⟩ := pm_bd hf
        rcases v58 with z61 | w60
        · have hf := pt_sl hf
          cases hf
          cases hi
          exact pw_t (by decide) K0 (show pw_F _ _ z61.2 from wfX16_stops (pw_rf _) e59)
        have K62 := pw_t (by decide) K0 (show pw_F _ _ w60 from wfX16_stops (pw_rf _) e59)
        have hf := pt_sr hf
        cases hf
        cases hi
        exact K62
      · have hf := pm_ie hf c56
        cases hf
        cases hi
        exact K0
    refine ⟨fun x0 x1 x4 x5 h K0 hf => ?_, ?_⟩
    · obtain ⟨y, hf, hi⟩ := pm_iter_s hf
      have hf : tX16_character_211 x0 x1 x4 x5 h = some y := hf
      unfold tX16_character_211 at hf
      by_cases c63 : x4 = 2
      · have hf := pm_it hf c63
        by_cases c64 : x5 < 2048
        · have hf := pm_it hf c64
          cases hf
          exact ih.2.2.2.2.2.2.1 x0 x1 x4 x5 h K0  hi
        · have hf := pm_ie hf c64
          by_cases c65 : x5 < 55296
          · have hf := pm_it hf c65
            cases hf
            exact ih.2.2.2.2.1 x0 x1 x4 h K0  hi
          · have hf := pm_ie hf c65
            by_cases c66 : 57343 < x5
            · have hf := pm_it hf c66
              cases hf
              exact ih.2.2.2.2.1 x0 x1 x4 h K0  hi
            · have hf := pm_ie hf c66
              cases hf
              exact ih.2.2.2.2.2.2.1 x0 x1 x4 x5 h K0  hi
      · have hf := pm_ie hf c63
        cases hf
        exact ih.2.2.2.2.2.2.1 x0 x1 x4 x5 h K0  hi
    refine ⟨fun x0 x1 x4 x5 h K0 hf => ?_, ?_⟩
    · obtain ⟨y, hf, hi⟩ := pm_iter_s hf
      have hf : tX16_character_241 x0 x1 x4 x5 h = some y := hf
      unfold tX16_character_241 at hf
      by_cases c67 : x4 = 3
      · have hf := pm_it hf c67
        by_cases c68 : x5 < 65536
        · have hf := pm_it hf c68
          cases hf
          exact ih.2.2.2.2.2.2.2 x0 x1 x4 h K0  hi
        · have hf := pm_ie hf c68
          by_cases c69 : 1114111 < x5
          · have hf := pm_it hf c69
            cases hf
            exact ih.2.2.2.2.2.2.2 x0 x1 x4 h K0  hi
          · have hf := pm_ie hf c69
            cases hf
            exact ih.2.2.2.2.1 x0 x1 x4 h K0  hi
      · have hf := pm_ie hf c67
        cases hf
        exact ih.2.2.2.2.2.2.2 x0 x1 x4 h K0  hi
    refine fun x0 x1 x4 h K0 hf => ?_
    obtain ⟨y, hf, hi⟩ := pm_iter_s hf
    have hf : tX16_character_267 x0 x1 x4 h = some y := hf
    unfold tX16_character_267 at hf
    by_cases c70 : (0 : Int32) = (0 : Int32)
    · have hf := pm_it hf c70
      obtain ⟨k71, hf⟩ := pm_if hf
      obtain ⟨v72, e73, hf⟩ := pm_bd hf
      rcases v72 with z75 | w74
      · have hf := pt_sl hf
        cases hf
        cases hi
        exact pw_t (by decide) K0 (show pw_F _ _ z75.2 from wfX16_stops (pw_rf _) e73)
      have K76 := pw_t (by decide) K0 (show pw_F _ _ w74 from wfX16_stops (pw_rf _) e73)
      have hf := pt_sr hf
      cases hf
      cases hi
      exact K76
    · have hf := pm_ie hf c70
      cases hf
      cases hi
      exact K0
set_option maxHeartbeats 4000000 in
set_option maxRecDepth 100000 in
theorem wfX16_character {h0 h : pm_H} (K0 : pw_F WX16_character h0 h) {a0 : Nat} {p1 : Int32} {p2 : Int32}  {r : ((Nat × pm_H) ⊕ (Int32 × pm_H))} (hf : fX16_character h a0 p1 p2 = some r) : pt_WI WX16_character h0 r := by
  unfold fX16_character at hf
  obtain ⟨k1, hf⟩ := pm_if hf
  obtain ⟨v2, e3, hf⟩ := pm_bd hf
  obtain ⟨k4, hf⟩ := pm_if hf
  obtain ⟨v5, e6, hf⟩ := pm_bd hf
  by_cases c7 : 128 ≤ v5
  · have hf := pm_it hf c7
    by_cases c8 : v5 < 192
    · have hf := pm_it hf c8
      obtain ⟨n, hn⟩ := pm_lim_iter hf
      exact (wlX16_character n).1 a0 p1 p2 v5 h K0  hn
    · have hf := pm_ie hf c8
      by_cases c9 : 224 ≤ v5
      · have hf := pm_it hf c9
        obtain ⟨n, hn⟩ := pm_lim_iter hf
        exact (wlX16_character n).1 a0 p1 p2 v5 h K0  hn
      · have hf := pm_ie hf c9
        obtain ⟨n, hn⟩ := pm_lim_iter hf
        exact (wlX16_character n).2.1 a0 p1 p2 v5 1 h K0  hn
  · have hf := pm_ie hf c7
    obtain ⟨n, hn⟩ := pm_lim_iter hf
    exact (wlX16_character n).2.1 a0 p1 p2 v5 0 h K0  hn
abbrev WX16_checksExports : List Nat := [2055, 2056]
set_option maxHeartbeats 4000000 in
set_option maxRecDepth 100000 in
theorem wlX16_checksExports {h0 : pm_H} {r : ((Nat × pm_H) ⊕ pm_H)} : ∀ n : Nat, (∀ (x0 : Nat) (x1 : Int32) (h : pm_H), pw_F WX16_checksExports h0 h → pm_iter sX16_checksExports n (.inl (x0, x1, h)) = some r → pt_WV WX16_checksExports h0 r) ∧ (∀ (x0 : Nat) (x1 : Int32) (x2 : Int32) (h : pm_H), pw_F WX16_checksExports h0 h → pm_iter sX16_checksExports n (.inr (x0, x1, x2, h)) = some r → pt_WV WX16_checksExports h0 r) := by
  intro n
  induction n with
  | zero => exact ⟨fun _ _ _ _ hf => (by cases hf), fun _ _ _ _ _ hf => (by cases hf)⟩
  | succ n ih =>
    refine ⟨fun x0 x1 h K0 hf => ?_, ?_⟩
    · obtain ⟨y, hf, hi⟩ := pm_iter_s hf
      have hf : tX16_checksExports_2 x0 x1 h = some y := hf
      unfold tX16_checksExports_2 at hf
      obtain ⟨k1, hf⟩ := pm_if hf
      obtain ⟨v2, e3, hf⟩ := pm_bd hf
      obtain ⟨k4, hf⟩ := pm_if hf
      by_cases c5 : (pm_I h v2 28) ≤ x1
      · have hf := pm_it hf c5
        cases hf
        cases hi
        exact K0
      · have hf := pm_ie hf c5
        obtain ⟨v6, e7, hf⟩ := pm_bd hf
        obtain ⟨k8, hf⟩ := pm_if hf
        obtain ⟨u9, hf⟩ := pm_if hf
        obtain ⟨v10, e11, hf⟩ := pm_bd hf
        obtain ⟨k12, hf⟩ := pm_if hf
        obtain ⟨u13, hf⟩ := pm_if hf
        obtain ⟨v14, e15, hf⟩ := pm_bd hf
        by_cases c16 : (pm_L h v6 x1.toNatClampNeg) < v14.toInt64
        · have hf := pm_it hf c16
          cases hf
          exact ih.2 x0 x1 0 h K0  hi
        · have hf := pm_ie hf c16
          obtain ⟨v17, e18, hf⟩ := pm_bd hf
          obtain ⟨k19, hf⟩ := pm_if hf
          obtain ⟨u20, hf⟩ := pm_if hf
          obtain ⟨v21, e22, hf⟩ := pm_bd hf
          rcases v21 with z24 | w23
          · have hf := pt_sl hf
            cases hf
            cases hi
            exact pw_t (by decide) K0 (show pw_F _ _ z24.2 from wfX16_stops (pw_rf _) e22)
          have K25 := pw_t (by decide) K0 (show pw_F _ _ w23 from wfX16_stops (pw_rf _) e22)
          have hf := pt_sr hf
          cases hf
          exact ih.2 x0 x1 0 w23 K25  hi
    refine fun x0 x1 x2 h K0 hf => ?_
    obtain ⟨y, hf, hi⟩ := pm_iter_s hf
    have hf : tX16_checksExports_61 x0 x1 x2 h = some y := hf
    unfold tX16_checksExports_61 at hf
    by_cases c26 : x1 ≤ x2
    · have hf := pm_it hf c26
      obtain ⟨y27, e28, hf⟩ := pm_lt hf
      cases hf
      exact ih.1 x0 y27 h K0  hi
    · have hf := pm_ie hf c26
      obtain ⟨k29, hf⟩ := pm_if hf
      obtain ⟨v30, e31, hf⟩ := pm_bd hf
      by_cases c32 : v30 = 0
      · have hf := pm_it hf c32
        obtain ⟨y33, e34, hf⟩ := pm_lt hf
        cases hf
        exact ih.2 x0 x1 y33 h K0  hi
      · have hf := pm_ie hf c32
        obtain ⟨v35, e36, hf⟩ := pm_bd hf
        obtain ⟨k37, hf⟩ := pm_if hf
        obtain ⟨v38, e39, hf⟩ := pm_bd hf
        obtain ⟨k40, hf⟩ := pm_if hf
        obtain ⟨u41, hf⟩ := pm_if hf
        obtain ⟨v42, e43, hf⟩ := pm_bd hf
        rcases v42 with z45 | w44
        · have hf := pt_sl hf
          cases hf
          cases hi
          exact pw_t (by decide) K0 (show pw_F _ _ z45.2 from wfX16_stops (pw_rf _) e43)
        have K46 := pw_t (by decide) K0 (show pw_F _ _ w44 from wfX16_stops (pw_rf _) e43)
        have hf := pt_sr hf
        obtain ⟨y47, e48, hf⟩ := pm_lt hf
        cases hf
        exact ih.2 x0 x1 y47 w44 K46  hi
set_option maxHeartbeats 4000000 in
set_option maxRecDepth 100000 in
theorem wfX16_checksExports {h0 h : pm_H} (K0 : pw_F WX16_checksExports h0 h) {a0 : Nat}  {r : ((Nat × pm_H) ⊕ pm_H)} (hf : fX16_checksExports h a0 = some r) : pt_WV WX16_checksExports h0 r := by
  unfold fX16_checksExports at hf
  obtain ⟨n, hn⟩ := pm_lim_iter hf
  exact (wlX16_checksExports n).1 a0 0 h K0  hn
abbrev WX16_checksLimits : List Nat := [2055, 2056]
set_option maxHeartbeats 4000000 in
set_option maxRecDepth 100000 in
theorem wlX16_checksLimits {h0 : pm_H} {r : ((Nat × pm_H) ⊕ pm_H)} : ∀ n : Nat, (∀ (x0 : Nat) (x1 : Int32) (h : pm_H), pw_F WX16_checksLimits h0 h → pm_iter sX16_checksLimits n (.inl (x0, x1, h)) = some r → pt_WV WX16_checksLimits h0 r) ∧ (∀ (x0 : Nat) (x1 : Int32) (h : pm_H), pw_F WX16_checksLimits h0 h → pm_iter sX16_checksLimits n (.inr (.inl (x0, x1, h))) = some r → pt_WV WX16_checksLimits h0 r) ∧ (∀ (x0 : Nat) (x1 : Int32) (x2 : Int32) (h : pm_H), pw_F WX16_checksLimits h0 h → pm_iter sX16_checksLimits n (.inr (.inr (.inl (x0, x1, x2, h)))) = some r → pt_WV WX16_checksLimits h0 r) ∧ (∀ (x0 : Nat) (x1 : Int32) (h : pm_H), pw_F WX16_checksLimits h0 h → pm_iter sX16_checksLimits n (.inr (.inr (.inr (x0, x1, h)))) = some r → pt_WV WX16_checksLimits h0 r) := by
  intro n
  induction n with
  | zero => exact ⟨fun _ _ _ _ hf => (by cases hf), fun _ _ _ _ hf => (by cases hf), fun _ _ _ _ _ hf => (by cases hf), fun _ _ _ _ hf => (by cases hf)⟩
  | succ n ih =>
    refine ⟨fun x0 x1 h K0 hf => ?_, ?_⟩
    · obtain ⟨y, hf, hi⟩ := pm_iter_s hf
      have hf : tX16_checksLimits_2 x0 x1 h = some y := hf
      unfold tX16_checksLimits_2 at hf
      obtain ⟨k1, hf⟩ := pm_if hf
      obtain ⟨v2, e3, hf⟩ := pm_bd hf
      obtain ⟨k4, hf⟩ := pm_if hf
      by_cases c5 : (pm_I h v2 8) ≤ x1
      · have hf := pm_it hf c5
        cases hf
        exact ih.2.1 x0 0 h K0  hi
      · have hf := pm_ie hf c5
        obtain ⟨v6, e7, hf⟩ := pm_bd hf
        obtain ⟨k8, hf⟩ := pm_if hf
        obtain ⟨u9, hf⟩ := pm_if hf
        obtain ⟨y10, e11, hf⟩ := pm_lt hf
        by_cases c12 : y10 = 1
        · have hf := pm_it hf c12
          cases hf
          exact ih.2.2.1 x0 x1 y10 h K0  hi
        · have hf := pm_ie hf c12
          by_cases c13 : y10 = 2
          · have hf := pm_it hf c13
            cases hf
            exact ih.2.2.1 x0 x1 y10 h K0  hi
          · have hf := pm_ie hf c13
            obtain ⟨y14, e15, hf⟩ := pm_lt hf
            cases hf
            exact ih.1 x0 y14 h K0  hi
    refine ⟨fun x0 x1 h K0 hf => ?_, ?_⟩
    · obtain ⟨y, hf, hi⟩ := pm_iter_s hf
      have hf : tX16_checksLimits_90 x0 x1 h = some y := hf
      unfold tX16_checksLimits_90 at hf
      obtain ⟨k16, hf⟩ := pm_if hf
      obtain ⟨v17, e18, hf⟩ := pm_bd hf
      obtain ⟨k19, hf⟩ := pm_if hf
      by_cases c20 : (pm_I h v17 17) ≤ x1
      · have hf := pm_it hf c20
        cases hf
        exact ih.2.2.2 x0 0 h K0  hi
      · have hf := pm_ie hf c20
        obtain ⟨v21, e22, hf⟩ := pm_bd hf
        obtain ⟨k23, hf⟩ := pm_if hf
        obtain ⟨u24, hf⟩ := pm_if hf
        obtain ⟨v25, e26, hf⟩ := pm_bd hf
        obtain ⟨k27, hf⟩ := pm_if hf
        obtain ⟨u28, hf⟩ := pm_if hf
        obtain ⟨v29, e30, hf⟩ := pm_lt hf
        by_cases c31 : v29 = 0
        · have hf := pm_it hf c31
          obtain ⟨v32, e33, hf⟩ := pm_bd hf
          obtain ⟨k34, hf⟩ := pm_if hf
          obtain ⟨u35, hf⟩ := pm_if hf
          obtain ⟨v36, e37, hf⟩ := pm_bd hf
          rcases v36 with z39 | w38
          · have hf := pt_sl hf
            cases hf
            cases hi
            exact pw_t (by decide) K0 (show pw_F _ _ z39.2 from wfX16_stops (pw_rf _) e37)
          have K40 := pw_t (by decide) K0 (show pw_F _ _ w38 from wfX16_stops (pw_rf _) e37)
          have hf := pt_sr hf
          obtain ⟨y41, e42, hf⟩ := pm_lt hf
          cases hf
          exact ih.2.1 x0 y41 w38 K40  hi
        · have hf := pm_ie hf c31
          obtain ⟨y43, e44, hf⟩ := pm_lt hf
          cases hf
          exact ih.2.1 x0 y43 h K0  hi
    refine ⟨fun x0 x1 x2 h K0 hf => ?_, ?_⟩
    · obtain ⟨y, hf, hi⟩ := pm_iter_s hf
      have hf : tX16_checksLimits_33 x0 x1 x2 h = some y := hf
      unfold tX16_checksLimits_33 at hf
      obtain ⟨k45, hf⟩ := pm_if hf
      obtain ⟨v46, e47, hf⟩ := pm_bd hf
      obtain ⟨k48, hf⟩ := pm_if hf
      obtain ⟨v49, e50, hf⟩ := pm_bd hf
      obtain ⟨k51, hf⟩ := pm_if hf
      obtain ⟨u52, hf⟩ := pm_if hf
      obtain ⟨v53, e54, hf⟩ := pm_bd hf
      obtain ⟨k55, hf⟩ := pm_if hf
      obtain ⟨u56, hf⟩ := pm_if hf
      by_cases c57 : x2 = 2
      · have hf := pm_it hf c57
        obtain ⟨v58, e59, hf⟩ := pm_lt hf
        by_cases c60 : v58 = 0
        · have hf := pm_it hf c60
          obtain ⟨v61, e62, hf⟩ := pm_bd hf
          obtain ⟨k63, hf⟩ := pm_if hf
          obtain ⟨u64, hf⟩ := pm_if hf
          obtain ⟨v65, e66, hf⟩ := pm_bd hf
          rcases v65 with z68 | w67
          · have hf := pt_sl hf
            cases hf
            cases hi
            exact pw_t (by decide) K0 (show pw_F _ _ z68.2 from wfX16_stops (pw_rf _) e66)
          have K69 := pw_t (by decide) K0 (show pw_F _ _ w67 from wfX16_stops (pw_rf _) e66)
          have hf := pt_sr hf
          obtain ⟨y70, e71, hf⟩ := pm_lt hf
          cases hf
          exact ih.1 x0 y70 w67 K69  hi
        · have hf := pm_ie hf c60
          obtain ⟨y72, e73, hf⟩ := pm_lt hf
          cases hf
          exact ih.1 x0 y72 h K0  hi
      · have hf := pm_ie hf c57
        obtain ⟨v74, e75, hf⟩ := pm_lt hf
        by_cases c76 : v74 = 0
        · have hf := pm_it hf c76
          obtain ⟨v77, e78, hf⟩ := pm_bd hf
          obtain ⟨k79, hf⟩ := pm_if hf
          obtain ⟨u80, hf⟩ := pm_if hf
          obtain ⟨v81, e82, hf⟩ := pm_bd hf
          rcases v81 with z84 | w83
          · have hf := pt_sl hf
            cases hf
            cases hi
            exact pw_t (by decide) K0 (show pw_F _ _ z84.2 from wfX16_stops (pw_rf _) e82)
          have K85 := pw_t (by decide) K0 (show pw_F _ _ w83 from wfX16_stops (pw_rf _) e82)
          have hf := pt_sr hf
          obtain ⟨y86, e87, hf⟩ := pm_lt hf
          cases hf
          exact ih.1 x0 y86 w83 K85  hi
        · have hf := pm_ie hf c76
          obtain ⟨y88, e89, hf⟩ := pm_lt hf
          cases hf
          exact ih.1 x0 y88 h K0  hi
    refine fun x0 x1 h K0 hf => ?_
    obtain ⟨y, hf, hi⟩ := pm_iter_s hf
    have hf : tX16_checksLimits_149 x0 x1 h = some y := hf
    unfold tX16_checksLimits_149 at hf
    obtain ⟨k90, hf⟩ := pm_if hf
    obtain ⟨v91, e92, hf⟩ := pm_bd hf
    obtain ⟨k93, hf⟩ := pm_if hf
    by_cases c94 : (pm_I h v91 21) ≤ x1
    · have hf := pm_it hf c94
      cases hf
      cases hi
      exact K0
    · have hf := pm_ie hf c94
      obtain ⟨v95, e96, hf⟩ := pm_bd hf
      obtain ⟨k97, hf⟩ := pm_if hf
      obtain ⟨u98, hf⟩ := pm_if hf
      obtain ⟨v99, e100, hf⟩ := pm_bd hf
      obtain ⟨k101, hf⟩ := pm_if hf
      obtain ⟨u102, hf⟩ := pm_if hf
      obtain ⟨v103, e104, hf⟩ := pm_lt hf
      by_cases c105 : v103 = 0
      · have hf := pm_it hf c105
        obtain ⟨v106, e107, hf⟩ := pm_bd hf
        obtain ⟨k108, hf⟩ := pm_if hf
        obtain ⟨u109, hf⟩ := pm_if hf
        obtain ⟨v110, e111, hf⟩ := pm_bd hf
        rcases v110 with z113 | w112
        · have hf := pt_sl hf
          cases hf
          cases hi
          exact pw_t (by decide) K0 (show pw_F _ _ z113.2 from wfX16_stops (pw_rf _) e111)
        have K114 := pw_t (by decide) K0 (show pw_F _ _ w112 from wfX16_stops (pw_rf _) e111)
        have hf := pt_sr hf
        obtain ⟨y115, e116, hf⟩ := pm_lt hf
        cases hf
        exact ih.2.2.2 x0 y115 w112 K114  hi
      · have hf := pm_ie hf c105
        obtain ⟨y117, e118, hf⟩ := pm_lt hf
        cases hf
        exact ih.2.2.2 x0 y117 h K0  hi
set_option maxHeartbeats 4000000 in
set_option maxRecDepth 100000 in
theorem wfX16_checksLimits {h0 h : pm_H} (K0 : pw_F WX16_checksLimits h0 h) {a0 : Nat}  {r : ((Nat × pm_H) ⊕ pm_H)} (hf : fX16_checksLimits h a0 = some r) : pt_WV WX16_checksLimits h0 r := by
  unfold fX16_checksLimits at hf
  obtain ⟨n, hn⟩ := pm_lim_iter hf
  exact (wlX16_checksLimits n).1 a0 0 h K0  hn
abbrev WX16_checksTypes : List Nat := [2055, 2056]
set_option maxHeartbeats 4000000 in
set_option maxRecDepth 100000 in
theorem wlX16_checksTypes {h0 : pm_H} {r : ((Nat × pm_H) ⊕ pm_H)} : ∀ n : Nat, (∀ (x0 : Nat) (x1 : Int32) (h : pm_H), pw_F WX16_checksTypes h0 h → pm_iter sX16_checksTypes n (.inl (x0, x1, h)) = some r → pt_WV WX16_checksTypes h0 r) ∧ (∀ (x0 : Nat) (x1 : Int32) (h : pm_H), pw_F WX16_checksTypes h0 h → pm_iter sX16_checksTypes n (.inr (x0, x1, h)) = some r → pt_WV WX16_checksTypes h0 r) := by
  intro n
  induction n with
  | zero => exact ⟨fun _ _ _ _ hf => (by cases hf), fun _ _ _ _ hf => (by cases hf)⟩
  | succ n ih =>
    refine ⟨fun x0 x1 h K0 hf => ?_, ?_⟩
    · obtain ⟨y, hf, hi⟩ := pm_iter_s hf
      have hf : tX16_checksTypes_2 x0 x1 h = some y := hf
      unfold tX16_checksTypes_2 at hf
      obtain ⟨k1, hf⟩ := pm_if hf
      obtain ⟨v2, e3, hf⟩ := pm_bd hf
      obtain ⟨k4, hf⟩ := pm_if hf
      by_cases c5 : (pm_I h v2 8) ≤ x1
      · have hf := pm_it hf c5
        cases hf
        exact ih.2 x0 0 h K0  hi
      · have hf := pm_ie hf c5
        obtain ⟨v6, e7, hf⟩ := pm_bd hf
        obtain ⟨k8, hf⟩ := pm_if hf
        obtain ⟨u9, hf⟩ := pm_if hf
        by_cases c10 : (pm_I h v6 x1.toNatClampNeg) = 0
        · have hf := pm_it hf c10
          obtain ⟨v11, e12, hf⟩ := pm_bd hf
          obtain ⟨k13, hf⟩ := pm_if hf
          obtain ⟨u14, hf⟩ := pm_if hf
          by_cases c15 : (pm_L h v11 x1.toNatClampNeg) < ((pm_I h v2 4).toInt64)
          · have hf := pm_it hf c15
            obtain ⟨y16, e17, hf⟩ := pm_lt hf
            cases hf
            exact ih.1 x0 y16 h K0  hi
          · have hf := pm_ie hf c15
            obtain ⟨v18, e19, hf⟩ := pm_bd hf
            obtain ⟨k20, hf⟩ := pm_if hf
            obtain ⟨u21, hf⟩ := pm_if hf
            obtain ⟨v22, e23, hf⟩ := pm_bd hf
            rcases v22 with z25 | w24
            · have hf := pt_sl hf
              cases hf
              cases hi
              exact pw_t (by decide) K0 (show pw_F _ _ z25.2 from wfX16_stops (pw_rf _) e23)
            have K26 := pw_t (by decide) K0 (show pw_F _ _ w24 from wfX16_stops (pw_rf _) e23)
            have hf := pt_sr hf
            obtain ⟨y27, e28, hf⟩ := pm_lt hf
            cases hf
            exact ih.1 x0 y27 w24 K26  hi
        · have hf := pm_ie hf c10
          obtain ⟨y29, e30, hf⟩ := pm_lt hf
          cases hf
          exact ih.1 x0 y29 h K0  hi
    refine fun x0 x1 h K0 hf => ?_
    obtain ⟨y, hf, hi⟩ := pm_iter_s hf
    have hf : tX16_checksTypes_69 x0 x1 h = some y := hf
    unfold tX16_checksTypes_69 at hf
    obtain ⟨k31, hf⟩ := pm_if hf
    obtain ⟨v32, e33, hf⟩ := pm_bd hf
    obtain ⟨k34, hf⟩ := pm_if hf
    by_cases c35 : (pm_I h v32 15) ≤ x1
    · have hf := pm_it hf c35
      cases hf
      cases hi
      exact K0
    · have hf := pm_ie hf c35
      obtain ⟨v36, e37, hf⟩ := pm_bd hf
      obtain ⟨k38, hf⟩ := pm_if hf
      obtain ⟨u39, hf⟩ := pm_if hf
      by_cases c40 : (pm_L h v36 x1.toNatClampNeg) < ((pm_I h v32 4).toInt64)
      · have hf := pm_it hf c40
        obtain ⟨y41, e42, hf⟩ := pm_lt hf
        cases hf
        exact ih.2 x0 y41 h K0  hi
      · have hf := pm_ie hf c40
        obtain ⟨v43, e44, hf⟩ := pm_bd hf
        obtain ⟨k45, hf⟩ := pm_if hf
        obtain ⟨u46, hf⟩ := pm_if hf
        obtain ⟨v47, e48, hf⟩ := pm_bd hf
        rcases v47 with z50 | w49
        · have hf := pt_sl hf
          cases hf
          cases hi
          exact pw_t (by decide) K0 (show pw_F _ _ z50.2 from wfX16_stops (pw_rf _) e48)
        have K51 := pw_t (by decide) K0 (show pw_F _ _ w49 from wfX16_stops (pw_rf _) e48)
        have hf := pt_sr hf
        obtain ⟨y52, e53, hf⟩ := pm_lt hf
        cases hf
        exact ih.2 x0 y52 w49 K51  hi
set_option maxHeartbeats 4000000 in
set_option maxRecDepth 100000 in
theorem wfX16_checksTypes {h0 h : pm_H} (K0 : pw_F WX16_checksTypes h0 h) {a0 : Nat}  {r : ((Nat × pm_H) ⊕ pm_H)} (hf : fX16_checksTypes h a0 = some r) : pt_WV WX16_checksTypes h0 r := by
  unfold fX16_checksTypes at hf
  obtain ⟨n, hn⟩ := pm_lim_iter hf
  exact (wlX16_checksTypes n).1 a0 0 h K0  hn
abbrev WX16_constantly : List Nat := [2055, 2056, 2067]
set_option maxHeartbeats 4000000 in
set_option maxRecDepth 100000 in
theorem wlX16_constantly {h0 : pm_H} {r : ((Nat × pm_H) ⊕ pm_H)} : ∀ n : Nat, (∀ (x0 : Nat) (x1 : Int32) (x2 : Int32) (x3 : Int32) (x4 : Int32) (x5 : Int32) (h : pm_H), pw_F WX16_constantly h0 h → pm_iter sX16_constantly n (.inl (x0, x1, x2, x3, x4, x5, h)) = some r → pt_WV WX16_constantly h0 r) ∧ (∀ (x0 : Nat) (x2 : Int32) (x3 : Int32) (x4 : Int32) (x5 : Int32) (x6 : Int32) (h : pm_H), pw_F WX16_constantly h0 h → pm_iter sX16_constantly n (.inr (x0, x2, x3, x4, x5, x6, h)) = some r → pt_WV WX16_constantly h0 r) := by
  intro n
  induction n with
  | zero => exact ⟨fun _ _ _ _ _ _ _ _ hf => (by cases hf), fun _ _ _ _ _ _ _ _ hf => (by cases hf)⟩
  | succ n ih =>
    refine ⟨fun x0 x1 x2 x3 x4 x5 h K0 hf => ?_, ?_⟩
    · obtain ⟨y, hf, hi⟩ := pm_iter_s hf
      have hf : tX16_constantly_8 x0 x1 x2 x3 x4 x5 h = some y := hf
      unfold tX16_constantly_8 at hf
      obtain ⟨k1, hf⟩ := pm_if hf
      obtain ⟨v2, e3, hf⟩ := pm_bd hf
      obtain ⟨k4, hf⟩ := pm_if hf
      obtain ⟨v5, e6, hf⟩ := pm_bd hf
      by_cases c7 : v5 = 11
      · have hf := pm_it hf c7
        cases hf
        exact ih.2 x0 x2 x1 x4 x5 x3 h K0  hi
      · have hf := pm_ie hf c7
        obtain ⟨v8, e9, hf⟩ := pm_bd hf
        have K10 := pw_t (by decide) K0 (wfX16_constantType (pw_rf _) e9)
        by_cases c11 : v8.1 = 0
        · have hf := pm_it hf c11
          obtain ⟨k12, hf⟩ := pm_if hf
          obtain ⟨v13, e14, hf⟩ := pm_bd hf
          rcases v13 with z16 | w15
          · have hf := pt_sl hf
            cases hf
            cases hi
            exact pw_t (by decide) K10 (show pw_F _ _ z16.2 from wfX16_stops (pw_rf _) e14)
          have K17 := pw_t (by decide) K10 (show pw_F _ _ w15 from wfX16_stops (pw_rf _) e14)
          have hf := pt_sr hf
          obtain ⟨y18, e19, hf⟩ := pm_lt hf
          obtain ⟨k20, hf⟩ := pm_if hf
          obtain ⟨v21, e22, hf⟩ := pm_bd hf
          have K23 := pw_t (by decide) K17 (wfX16_behind (pw_rf _) e22)
          cases hf
          exact ih.1 x0 x1 x2 v21.1 y18 v8.1 v21.2 K23  hi
        · have hf := pm_ie hf c11
          obtain ⟨y24, e25, hf⟩ := pm_lt hf
          obtain ⟨k26, hf⟩ := pm_if hf
          obtain ⟨v27, e28, hf⟩ := pm_bd hf
          have K29 := pw_t (by decide) K10 (wfX16_behind (pw_rf _) e28)
          cases hf
          exact ih.1 x0 x1 x2 v27.1 y24 v8.1 v27.2 K29  hi
    refine fun x0 x2 x3 x4 x5 x6 h K0 hf => ?_
    obtain ⟨y, hf, hi⟩ := pm_iter_s hf
    have hf : tX16_constantly_57 x0 x2 x3 x4 x5 x6 h = some y := hf
    unfold tX16_constantly_57 at hf
    by_cases c30 : x6 ≤ x3
    · have hf := pm_it hf c30
      by_cases c31 : x4 = 1
      · have hf := pm_it hf c31
        by_cases c32 : x5 = x2
        · have hf := pm_it hf c32
          obtain ⟨y33, e34, hf⟩ := pm_lt hf
          obtain ⟨k35, hf⟩ := pm_if hf
          cases hf
          cases hi
          exact (pw_sI K0 rfl k35 (by decide))
        · have hf := pm_ie hf c32
          obtain ⟨k36, hf⟩ := pm_if hf
          obtain ⟨v37, e38, hf⟩ := pm_bd hf
          rcases v37 with z40 | w39
          · have hf := pt_sl hf
            cases hf
            cases hi
            exact pw_t (by decide) K0 (show pw_F _ _ z40.2 from wfX16_stops (pw_rf _) e38)
          have K41 := pw_t (by decide) K0 (show pw_F _ _ w39 from wfX16_stops (pw_rf _) e38)
          have hf := pt_sr hf
          obtain ⟨y42, e43, hf⟩ := pm_lt hf
          obtain ⟨k44, hf⟩ := pm_if hf
          cases hf
          cases hi
          exact (pw_sI K41 rfl k44 (by decide))
      · have hf := pm_ie hf c31
        obtain ⟨k45, hf⟩ := pm_if hf
        obtain ⟨v46, e47, hf⟩ := pm_bd hf
        rcases v46 with z49 | w48
        · have hf := pt_sl hf
          cases hf
          cases hi
          exact pw_t (by decide) K0 (show pw_F _ _ z49.2 from wfX16_stops (pw_rf _) e47)
        have K50 := pw_t (by decide) K0 (show pw_F _ _ w48 from wfX16_stops (pw_rf _) e47)
        have hf := pt_sr hf
        obtain ⟨y51, e52, hf⟩ := pm_lt hf
        obtain ⟨k53, hf⟩ := pm_if hf
        cases hf
        cases hi
        exact (pw_sI K50 rfl k53 (by decide))
    · have hf := pm_ie hf c30
      obtain ⟨y54, e55, hf⟩ := pm_lt hf
      obtain ⟨k56, hf⟩ := pm_if hf
      obtain ⟨v57, e58, hf⟩ := pm_bd hf
      obtain ⟨k59, hf⟩ := pm_if hf
      have k59b := (congrFun (pkI rfl) v57).symm.trans k59
      obtain ⟨v60, e61, hf⟩ := pm_bd hf
      by_cases c62 : v60 = 210
      · have hf := pm_it hf c62
        obtain ⟨v63, e64, hf⟩ := pm_bd hf
        have K65 := pw_t (by decide) (pw_sI K0 rfl k56 (by decide)) (wfX16_word (pw_rf _) e64)
        obtain ⟨k66, hf⟩ := pm_if hf
        obtain ⟨v67, e68, hf⟩ := pm_bd hf
        obtain ⟨k69, hf⟩ := pm_if hf
        obtain ⟨v70, e71, hf⟩ := pm_bd hf
        by_cases c72 : v63.1 < v70.toInt64
        · have hf := pm_it hf c72
          obtain ⟨v73, e74, hf⟩ := pm_bd hf
          have K75 := pw_t (by decide) K65 (wfX16_behind (pw_rf _) e74)
          cases hf
          exact ih.2 x0 x2 v73.1 x4 x5 x6 v73.2 K75  hi
        · have hf := pm_ie hf c72
          obtain ⟨v76, e77, hf⟩ := pm_bd hf
          rcases v76 with z79 | w78
          · have hf := pt_sl hf
            cases hf
            cases hi
            exact pw_t (by decide) K65 (show pw_F _ _ z79.2 from wfX16_stops (pw_rf _) e77)
          have K80 := pw_t (by decide) K65 (show pw_F _ _ w78 from wfX16_stops (pw_rf _) e77)
          have hf := pt_sr hf
          obtain ⟨k81, hf⟩ := pm_if hf
          obtain ⟨v82, e83, hf⟩ := pm_bd hf
          have K84 := pw_t (by decide) K80 (wfX16_behind (pw_rf _) e83)
          cases hf
          exact ih.2 x0 x2 v82.1 x4 x5 x6 v82.2 K84  hi
      · have hf := pm_ie hf c62
        obtain ⟨v85, e86, hf⟩ := pm_bd hf
        have K87 := pw_t (by decide) (pw_sI K0 rfl k56 (by decide)) (wfX16_behind (pw_rf _) e86)
        cases hf
        exact ih.2 x0 x2 v85.1 x4 x5 x6 v85.2 K87  hi
set_option maxHeartbeats 4000000 in
set_option maxRecDepth 100000 in
theorem wfX16_constantly {h0 h : pm_H} (K0 : pw_F WX16_constantly h0 h) {a0 : Nat} {p1 : Int32} {p2 : Int32}  {r : ((Nat × pm_H) ⊕ pm_H)} (hf : fX16_constantly h a0 p1 p2 = some r) : pt_WV WX16_constantly h0 r := by
  unfold fX16_constantly at hf
  obtain ⟨n, hn⟩ := pm_lim_iter hf
  exact (wlX16_constantly n).1 a0 p1 p2 p1 0 0 h K0  hn
abbrev WX16_next : List Nat := [2055, 2056, 2059]
set_option maxHeartbeats 4000000 in
set_option maxRecDepth 100000 in
theorem wfX16_next {h0 h : pm_H} (K0 : pw_F WX16_next h0 h) {a0 : Nat}  {r : ((Nat × pm_H) ⊕ (Int32 × pm_H))} (hf : fX16_next h a0 = some r) : pt_WI WX16_next h0 r := by
  unfold fX16_next at hf
  obtain ⟨k1, hf⟩ := pm_if hf
  by_cases c2 : (pm_I h a0 11) < (pm_I h a0 12)
  · have hf := pm_it hf c2
    obtain ⟨y3, e4, hf⟩ := pm_lt hf
    obtain ⟨v5, e6, hf⟩ := pm_bd hf
    obtain ⟨k7, hf⟩ := pm_if hf
    have k7b := (congrFun (pkI rfl) v5).symm.trans k7
    obtain ⟨v8, e9, hf⟩ := pm_bd hf
    cases hf
    exact (pw_sI K0 rfl k1 (by decide))
  · have hf := pm_ie hf c2
    obtain ⟨v10, e11, hf⟩ := pm_bd hf
    rcases v10 with z13 | w12
    · have hf := pt_kl hf
      cases hf
      exact pw_t (by decide) K0 (show pw_F _ _ z13.2 from wfX16_stops (pw_rf _) e11)
    have K14 := pw_t (by decide) K0 (show pw_F _ _ w12 from wfX16_stops (pw_rf _) e11)
    have hf := pt_kr hf
    obtain ⟨k15, hf⟩ := pm_if hf
    obtain ⟨y16, e17, hf⟩ := pm_lt hf
    obtain ⟨v18, e19, hf⟩ := pm_bd hf
    obtain ⟨k20, hf⟩ := pm_if hf
    have k20b := (congrFun (pkI rfl) v18).symm.trans k20
    obtain ⟨v21, e22, hf⟩ := pm_bd hf
    cases hf
    exact (pw_sI K14 rfl k15 (by decide))
abbrev WX16_number : List Nat := [2055, 2056, 2059]
set_option maxHeartbeats 4000000 in
set_option maxRecDepth 100000 in
theorem wlX16_number {h0 : pm_H} {r : ((Nat × pm_H) ⊕ (Int64 × pm_H))} : ∀ n : Nat, (∀ (x0 : Nat) (x1 : Int64) (x3 : Int32) (h : pm_H), pw_F WX16_number h0 h → pm_iter sX16_number n (.inl (x0, x1, x3, h)) = some r → pt_WJ WX16_number h0 r) ∧ (∀ (x0 : Nat) (x1 : Int64) (x3 : Int32) (x4 : Int32) (h : pm_H), pw_F WX16_number h0 h → pm_iter sX16_number n (.inr (x0, x1, x3, x4, h)) = some r → pt_WJ WX16_number h0 r) := by
  intro n
  induction n with
  | zero => exact ⟨fun _ _ _ _ _ hf => (by cases hf), fun _ _ _ _ _ _ hf => (by cases hf)⟩
  | succ n ih =>
    refine ⟨fun x0 x1 x3 h K0 hf => ?_, ?_⟩
    · obtain ⟨y, hf, hi⟩ := pm_iter_s hf
      have hf : tX16_number_4 x0 x1 x3 h = some y := hf
      unfold tX16_number_4 at hf
      by_cases c1 : 5 ≤ x3
      · have hf := pm_it hf c1
        cases hf
        cases hi
        exact K0
      · have hf := pm_ie hf c1
        obtain ⟨k2, hf⟩ := pm_if hf
        obtain ⟨v3, e4, hf⟩ := pm_bd hf
        rcases v3 with z6 | w5
        · have hf := pt_sl hf
          cases hf
          cases hi
          exact pw_t (by decide) K0 (show pw_F _ _ z6.2 from wfX16_next (pw_rf _) e4)
        have K7 := pw_t (by decide) K0 (show pw_F _ _ w5.2 from wfX16_next (pw_rf _) e4)
        have hf := pt_sr hf
        by_cases c8 : x3 = 4
        · have hf := pm_it hf c8
          by_cases c9 : w5.1 ≤ 15
          · have hf := pm_it hf c9
            cases hf
            exact ih.2 x0 x1 x3 w5.1 w5.2 K7  hi
          · have hf := pm_ie hf c9
            obtain ⟨k10, hf⟩ := pm_if hf
            obtain ⟨v11, e12, hf⟩ := pm_bd hf
            rcases v11 with z14 | w13
            · have hf := pt_sl hf
              cases hf
              cases hi
              exact pw_t (by decide) K7 (show pw_F _ _ z14.2 from wfX16_stops (pw_rf _) e12)
            have K15 := pw_t (by decide) K7 (show pw_F _ _ w13 from wfX16_stops (pw_rf _) e12)
            have hf := pt_sr hf
            cases hf
            exact ih.2 x0 x1 x3 w5.1 w13 K15  hi
        · have hf := pm_ie hf c8
          cases hf
          exact ih.2 x0 x1 x3 w5.1 w5.2 K7  hi
    refine fun x0 x1 x3 x4 h K0 hf => ?_
    obtain ⟨y, hf, hi⟩ := pm_iter_s hf
    have hf : tX16_number_38 x0 x1 x3 x4 h = some y := hf
    unfold tX16_number_38 at hf
    obtain ⟨y16, e17, hf⟩ := pm_lt hf
    by_cases c18 : 128 ≤ x4
    · have hf := pm_it hf c18
      obtain ⟨y19, e20, hf⟩ := pm_lt hf
      cases hf
      exact ih.1 x0 y16 y19 h K0  hi
    · have hf := pm_ie hf c18
      cases hf
      cases hi
      exact K0
set_option maxHeartbeats 4000000 in
set_option maxRecDepth 100000 in
theorem wfX16_number {h0 h : pm_H} (K0 : pw_F WX16_number h0 h) {a0 : Nat}  {r : ((Nat × pm_H) ⊕ (Int64 × pm_H))} (hf : fX16_number h a0 = some r) : pt_WJ WX16_number h0 r := by
  unfold fX16_number at hf
  obtain ⟨n, hn⟩ := pm_lim_iter hf
  exact (wlX16_number n).1 a0 0 0 h K0  hn
abbrev WX16_put : List Nat := [2055, 2056, 2071, 4352]
set_option maxHeartbeats 4000000 in
set_option maxRecDepth 100000 in
theorem wfX16_put {h0 h : pm_H} (K0 : pw_F WX16_put h0 h) {a0 : Nat} {p1 : Int32}  {r : ((Nat × pm_H) ⊕ pm_H)} (hf : fX16_put h a0 p1 = some r) : pt_WV WX16_put h0 r := by
  unfold fX16_put at hf
  obtain ⟨k1, hf⟩ := pm_if hf
  by_cases c2 : (pm_I h a0 23) = 1000
  · have hf := pm_it hf c2
    obtain ⟨v3, e4, hf⟩ := pm_bd hf
    rcases v3 with z6 | w5
    · have hf := pt_kl hf
      cases hf
      exact pw_t (by decide) K0 (show pw_F _ _ z6.2 from wfX16_stops (pw_rf _) e4)
    have K7 := pw_t (by decide) K0 (show pw_F _ _ w5 from wfX16_stops (pw_rf _) e4)
    have hf := pt_kr hf
    obtain ⟨k8, hf⟩ := pm_if hf
    obtain ⟨v9, e10, hf⟩ := pm_bd hf
    obtain ⟨k11, hf⟩ := pm_if hf
    obtain ⟨u12, hf⟩ := pm_if hf
    obtain ⟨y13, e14, hf⟩ := pm_lt hf
    cases hf
    exact (pw_sI (pw_aI K7 rfl k11 (by decide) (by decide)) (pkI rfl) k8 (by decide))
  · have hf := pm_ie hf c2
    obtain ⟨v15, e16, hf⟩ := pm_bd hf
    obtain ⟨k17, hf⟩ := pm_if hf
    obtain ⟨u18, hf⟩ := pm_if hf
    obtain ⟨y19, e20, hf⟩ := pm_lt hf
    cases hf
    exact (pw_sI (pw_aI K0 rfl k17 (by decide) (by decide)) (pkI rfl) k1 (by decide))
abbrev WX16_putParameters : List Nat := [2055, 2056, 2071, 4352]
set_option maxHeartbeats 4000000 in
set_option maxRecDepth 100000 in
theorem wlX16_putParameters {h0 : pm_H} {r : ((Nat × pm_H) ⊕ pm_H)} : ∀ n : Nat, (∀ (x0 : Nat) (x1 : Int64) (x3 : Int32) (h : pm_H), pw_F WX16_putParameters h0 h → pm_iter sX16_putParameters n (x0, x1, x3, h) = some r → pt_WV WX16_putParameters h0 r) := by
  intro n
  induction n with
  | zero => exact fun _ _ _ _ _ hf => (by cases hf)
  | succ n ih =>
    refine fun x0 x1 x3 h K0 hf => ?_
    obtain ⟨y, hf, hi⟩ := pm_iter_s hf
    have hf : tX16_putParameters_2 x0 x1 x3 h = some y := hf
    unfold tX16_putParameters_2 at hf
    obtain ⟨k1, hf⟩ := pm_if hf
    obtain ⟨v2, e3, hf⟩ := pm_bd hf
    by_cases c4 : v2 ≤ x3
    · have hf := pm_it hf c4
      cases hf
      cases hi
      exact K0
    · have hf := pm_ie hf c4
      obtain ⟨v5, e6, hf⟩ := pm_bd hf
      obtain ⟨v7, e8, hf⟩ := pm_bd hf
      rcases v7 with z10 | w9
      · have hf := pt_sl hf
        cases hf
        cases hi
        exact pw_t (by decide) K0 (show pw_F _ _ z10.2 from wfX16_put (pw_rf _) e8)
      have K11 := pw_t (by decide) K0 (show pw_F _ _ w9 from wfX16_put (pw_rf _) e8)
      have hf := pt_sr hf
      obtain ⟨y12, e13, hf⟩ := pm_lt hf
      cases hf
      exact ih x0 x1 y12 w9 K11  hi
set_option maxHeartbeats 4000000 in
set_option maxRecDepth 100000 in
theorem wfX16_putParameters {h0 h : pm_H} (K0 : pw_F WX16_putParameters h0 h) {a0 : Nat} {p1 : Int64}  {r : ((Nat × pm_H) ⊕ pm_H)} (hf : fX16_putParameters h a0 p1 = some r) : pt_WV WX16_putParameters h0 r := by
  unfold fX16_putParameters at hf
  obtain ⟨n, hn⟩ := pm_lim_iter hf
  exact (wlX16_putParameters n) a0 p1 0 h K0  hn
abbrev WX16_putResults : List Nat := [2055, 2056, 2071, 4352]
set_option maxHeartbeats 4000000 in
set_option maxRecDepth 100000 in
theorem wlX16_putResults {h0 : pm_H} {r : ((Nat × pm_H) ⊕ pm_H)} : ∀ n : Nat, (∀ (x0 : Nat) (x1 : Int64) (x3 : Int32) (h : pm_H), pw_F WX16_putResults h0 h → pm_iter sX16_putResults n (x0, x1, x3, h) = some r → pt_WV WX16_putResults h0 r) := by
  intro n
  induction n with
  | zero => exact fun _ _ _ _ _ hf => (by cases hf)
  | succ n ih =>
    refine fun x0 x1 x3 h K0 hf => ?_
    obtain ⟨y, hf, hi⟩ := pm_iter_s hf
    have hf : tX16_putResults_2 x0 x1 x3 h = some y := hf
    unfold tX16_putResults_2 at hf
    obtain ⟨k1, hf⟩ := pm_if hf
    obtain ⟨v2, e3, hf⟩ := pm_bd hf
    by_cases c4 : v2 ≤ x3
    · have hf := pm_it hf c4
      cases hf
      cases hi
      exact K0
    · have hf := pm_ie hf c4
      obtain ⟨v5, e6, hf⟩ := pm_bd hf
      obtain ⟨v7, e8, hf⟩ := pm_bd hf
      rcases v7 with z10 | w9
      · have hf := pt_sl hf
        cases hf
        cases hi
        exact pw_t (by decide) K0 (show pw_F _ _ z10.2 from wfX16_put (pw_rf _) e8)
      have K11 := pw_t (by decide) K0 (show pw_F _ _ w9 from wfX16_put (pw_rf _) e8)
      have hf := pt_sr hf
      obtain ⟨y12, e13, hf⟩ := pm_lt hf
      cases hf
      exact ih x0 x1 y12 w9 K11  hi
set_option maxHeartbeats 4000000 in
set_option maxRecDepth 100000 in
theorem wfX16_putResults {h0 h : pm_H} (K0 : pw_F WX16_putResults h0 h) {a0 : Nat} {p1 : Int64}  {r : ((Nat × pm_H) ⊕ pm_H)} (hf : fX16_putResults h a0 p1 = some r) : pt_WV WX16_putResults h0 r := by
  unfold fX16_putResults at hf
  obtain ⟨n, hn⟩ := pm_lim_iter hf
  exact (wlX16_putResults n) a0 p1 0 h K0  hn
abbrev WX16_readsFunctions : List Nat := [1795, 1806, 1807, 2055, 2056, 2059, 4480]
set_option maxHeartbeats 4000000 in
set_option maxRecDepth 100000 in
theorem wlX16_readsFunctions {h0 : pm_H} {r : ((Nat × pm_H) ⊕ pm_H)} : ∀ n : Nat, (∀ (x0 : Nat) (x1 : Int64) (x3 : Int64) (h : pm_H), pw_F WX16_readsFunctions h0 h → pm_iter sX16_readsFunctions n (x0, x1, x3, h) = some r → pt_WV WX16_readsFunctions h0 r) := by
  intro n
  induction n with
  | zero => exact fun _ _ _ _ _ hf => (by cases hf)
  | succ n ih =>
    refine fun x0 x1 x3 h K0 hf => ?_
    obtain ⟨y, hf, hi⟩ := pm_iter_s hf
    have hf : tX16_readsFunctions_27 x0 x1 x3 h = some y := hf
    unfold tX16_readsFunctions_27 at hf
    by_cases c15 : x1 ≤ x3
    · have hf := pm_it hf c15
      cases hf
      cases hi
      exact K0
    · have hf := pm_ie hf c15
      obtain ⟨k16, hf⟩ := pm_if hf
      obtain ⟨v17, e18, hf⟩ := pm_bd hf
      rcases v17 with z20 | w19
      · have hf := pt_sl hf
        cases hf
        cases hi
        exact pw_t (by decide) K0 (show pw_F _ _ z20.2 from wfX16_number (pw_rf _) e18)
      have K21 := pw_t (by decide) K0 (show pw_F _ _ w19.2 from wfX16_number (pw_rf _) e18)
      have hf := pt_sr hf
      by_cases c22 : 64 ≤ x3
      · have hf := pm_it hf c22
        obtain ⟨y23, e24, hf⟩ := pm_lt hf
        cases hf
        exact ih x0 x1 y23 w19.2 K21  hi
      · have hf := pm_ie hf c22
        obtain ⟨k25, hf⟩ := pm_if hf
        obtain ⟨v26, e27, hf⟩ := pm_bd hf
        obtain ⟨k28, hf⟩ := pm_if hf
        obtain ⟨v29, e30, hf⟩ := pm_bd hf
        obtain ⟨k31, hf⟩ := pm_if hf
        obtain ⟨u32, hf⟩ := pm_if hf
        obtain ⟨y33, e34, hf⟩ := pm_lt hf
        cases hf
        exact ih x0 x1 y33 (pm_setL w19.2 v29 x3.toInt32.toNatClampNeg w19.1) (pw_aL K21 rfl k31 (by decide) (by decide))  hi
set_option maxHeartbeats 4000000 in
set_option maxRecDepth 100000 in
theorem wfX16_readsFunctions {h0 h : pm_H} (K0 : pw_F WX16_readsFunctions h0 h) {a0 : Nat}  {r : ((Nat × pm_H) ⊕ pm_H)} (hf : fX16_readsFunctions h a0 = some r) : pt_WV WX16_readsFunctions h0 r := by
  unfold fX16_readsFunctions at hf
  obtain ⟨k1, hf⟩ := pm_if hf
  obtain ⟨v2, e3, hf⟩ := pm_bd hf
  rcases v2 with z5 | w4
  · have hf := pt_kl hf
    cases hf
    exact pw_t (by decide) K0 (show pw_F _ _ z5.2 from wfX16_number (pw_rf _) e3)
  have K6 := pw_t (by decide) K0 (show pw_F _ _ w4.2 from wfX16_number (pw_rf _) e3)
  have hf := pt_kr hf
  obtain ⟨k7, hf⟩ := pm_if hf
  obtain ⟨v8, e9, hf⟩ := pm_bd hf
  obtain ⟨k10, hf⟩ := pm_if hf
  obtain ⟨v11, e12, hf⟩ := pm_bd hf
  have K13 := pw_t (by decide) (pw_sL K6 rfl k10 (by decide)) (wfX16_kept (pw_rf _) e12)
  obtain ⟨k14, hf⟩ := pm_if hf
  obtain ⟨n, hn⟩ := pm_lim_iter hf
  exact (wlX16_readsFunctions n) a0 w4.1 0 (pm_setI v11.2 v8 15 v11.1) (pw_sI K13 rfl k14 (by decide))  hn
abbrev WX16_referenceType : List Nat := [2055, 2056, 2059]
set_option maxHeartbeats 4000000 in
set_option maxRecDepth 100000 in
theorem wfX16_referenceType {h0 h : pm_H} (K0 : pw_F WX16_referenceType h0 h) {a0 : Nat}  {r : ((Nat × pm_H) ⊕ (Int32 × pm_H))} (hf : fX16_referenceType h a0 = some r) : pt_WI WX16_referenceType h0 r := by
  unfold fX16_referenceType at hf
  obtain ⟨k1, hf⟩ := pm_if hf
  obtain ⟨v2, e3, hf⟩ := pm_bd hf
  rcases v2 with z5 | w4
  · have hf := pt_kl hf
    cases hf
    exact pw_t (by decide) K0 (show pw_F _ _ z5.2 from wfX16_next (pw_rf _) e3)
  have K6 := pw_t (by decide) K0 (show pw_F _ _ w4.2 from wfX16_next (pw_rf _) e3)
  have hf := pt_kr hf
  obtain ⟨v7, e8, hf⟩ := pm_lt hf
  by_cases c9 : v7 = 0
  · have hf := pm_it hf c9
    obtain ⟨k10, hf⟩ := pm_if hf
    obtain ⟨v11, e12, hf⟩ := pm_bd hf
    rcases v11 with z14 | w13
    · have hf := pt_kl hf
      cases hf
      exact pw_t (by decide) K6 (show pw_F _ _ z14.2 from wfX16_stops (pw_rf _) e12)
    have K15 := pw_t (by decide) K6 (show pw_F _ _ w13 from wfX16_stops (pw_rf _) e12)
    have hf := pt_kr hf
    cases hf
    exact K15
  · have hf := pm_ie hf c9
    cases hf
    exact K6
abbrev WX16_selects : List Nat := [2055, 2056, 2071, 4352]
set_option maxHeartbeats 4000000 in
set_option maxRecDepth 100000 in
theorem wfX16_selects_b53 {h0 h : pm_H} (K0 : pw_F WX16_selects h0 h) {x0 : Nat} {x1 : Int32} {x2 : Int32} {s0 : Int32}  {r : ((Nat × pm_H) ⊕ pm_H)} (hf : fX16_selects_b53 h x0 x1 x2 s0 = some r) : pt_WV WX16_selects h0 r := by
  unfold fX16_selects_b53 at hf
  by_cases c28 : s0 = 0
  · have hf := pm_it hf c28
    obtain ⟨k29, hf⟩ := pm_if hf
    obtain ⟨v30, e31, hf⟩ := pm_bd hf
    rcases v30 with z33 | w32
    · have hf := pt_kl hf
      cases hf
      exact pw_t (by decide) K0 (show pw_F _ _ z33.2 from wfX16_stops (pw_rf _) e31)
    have K34 := pw_t (by decide) K0 (show pw_F _ _ w32 from wfX16_stops (pw_rf _) e31)
    have hf := pt_kr hf
    by_cases c35 : x1 = (-1)
    · have hf := pm_it hf c35
      obtain ⟨k36, hf⟩ := pm_if hf
      obtain ⟨v37, e38, hf⟩ := pm_bd hf
      rcases v37 with z40 | w39
      · have hf := pt_kl hf
        cases hf
        exact pw_t (by decide) K34 (show pw_F _ _ z40.2 from wfX16_put (pw_rf _) e38)
      have K41 := pw_t (by decide) K34 (show pw_F _ _ w39 from wfX16_put (pw_rf _) e38)
      have hf := pt_kr hf
      cases hf
      exact K41
    · have hf := pm_ie hf c35
      obtain ⟨k42, hf⟩ := pm_if hf
      obtain ⟨v43, e44, hf⟩ := pm_bd hf
      rcases v43 with z46 | w45
      · have hf := pt_kl hf
        cases hf
        exact pw_t (by decide) K34 (show pw_F _ _ z46.2 from wfX16_put (pw_rf _) e44)
      have K47 := pw_t (by decide) K34 (show pw_F _ _ w45 from wfX16_put (pw_rf _) e44)
      have hf := pt_kr hf
      cases hf
      exact K47
  · have hf := pm_ie hf c28
    by_cases c48 : x1 = (-1)
    · have hf := pm_it hf c48
      obtain ⟨k49, hf⟩ := pm_if hf
      obtain ⟨v50, e51, hf⟩ := pm_bd hf
      rcases v50 with z53 | w52
      · have hf := pt_kl hf
        cases hf
        exact pw_t (by decide) K0 (show pw_F _ _ z53.2 from wfX16_put (pw_rf _) e51)
      have K54 := pw_t (by decide) K0 (show pw_F _ _ w52 from wfX16_put (pw_rf _) e51)
      have hf := pt_kr hf
      cases hf
      exact K54
    · have hf := pm_ie hf c48
      obtain ⟨k55, hf⟩ := pm_if hf
      obtain ⟨v56, e57, hf⟩ := pm_bd hf
      rcases v56 with z59 | w58
      · have hf := pt_kl hf
        cases hf
        exact pw_t (by decide) K0 (show pw_F _ _ z59.2 from wfX16_put (pw_rf _) e57)
      have K60 := pw_t (by decide) K0 (show pw_F _ _ w58 from wfX16_put (pw_rf _) e57)
      have hf := pt_kr hf
      cases hf
      exact K60
set_option maxHeartbeats 4000000 in
set_option maxRecDepth 100000 in
theorem wfX16_selects_b48 {h0 h : pm_H} (K0 : pw_F WX16_selects h0 h) {x0 : Nat} {x1 : Int32} {x2 : Int32}  {r : ((Nat × pm_H) ⊕ pm_H)} (hf : fX16_selects_b48 h x0 x1 x2 = some r) : pt_WV WX16_selects h0 r := by
  unfold fX16_selects_b48 at hf
  exact wfX16_selects_b53 K0  hf
set_option maxHeartbeats 4000000 in
set_option maxRecDepth 100000 in
theorem wfX16_selects_b52 {h0 h : pm_H} (K0 : pw_F WX16_selects h0 h) {x0 : Nat} {x1 : Int32} {x2 : Int32}  {r : ((Nat × pm_H) ⊕ pm_H)} (hf : fX16_selects_b52 h x0 x1 x2 = some r) : pt_WV WX16_selects h0 r := by
  unfold fX16_selects_b52 at hf
  exact wfX16_selects_b53 K0  hf
set_option maxHeartbeats 4000000 in
set_option maxRecDepth 100000 in
theorem wfX16_selects {h0 h : pm_H} (K0 : pw_F WX16_selects h0 h) {a0 : Nat}  {r : ((Nat × pm_H) ⊕ pm_H)} (hf : fX16_selects h a0 = some r) : pt_WV WX16_selects h0 r := by
  unfold fX16_selects at hf
  obtain ⟨k1, hf⟩ := pm_if hf
  obtain ⟨v2, e3, hf⟩ := pm_bd hf
  rcases v2 with z5 | w4
  · have hf := pt_kl hf
    cases hf
    exact pw_t (by decide) K0 (show pw_F _ _ z5.2 from wfX16_takes (pw_rf _) e3)
  have K6 := pw_t (by decide) K0 (show pw_F _ _ w4 from wfX16_takes (pw_rf _) e3)
  have hf := pt_kr hf
  obtain ⟨k7, hf⟩ := pm_if hf
  obtain ⟨v8, e9, hf⟩ := pm_bd hf
  rcases v8 with z11 | w10
  · have hf := pt_kl hf
    cases hf
    exact pw_t (by decide) K6 (show pw_F _ _ z11.2 from wfX16_take (pw_rf _) e9)
  have K12 := pw_t (by decide) K6 (show pw_F _ _ w10.2 from wfX16_take (pw_rf _) e9)
  have hf := pt_kr hf
  obtain ⟨k13, hf⟩ := pm_if hf
  obtain ⟨v14, e15, hf⟩ := pm_bd hf
  rcases v14 with z17 | w16
  · have hf := pt_kl hf
    cases hf
    exact pw_t (by decide) K12 (show pw_F _ _ z17.2 from wfX16_take (pw_rf _) e15)
  have K18 := pw_t (by decide) K12 (show pw_F _ _ w16.2 from wfX16_take (pw_rf _) e15)
  have hf := pt_kr hf
  obtain ⟨v19, e20, hf⟩ := pm_lt hf
  by_cases c21 : v19 = 0
  · have hf := pm_it hf c21
    obtain ⟨v22, e23, hf⟩ := pm_lt hf
    by_cases c24 : v22 = 0
    · have hf := pm_it hf c24
      by_cases c25 : w10.1 = (-1)
      · have hf := pm_it hf c25
        exact wfX16_selects_b48 K18  hf
      · have hf := pm_ie hf c25
        by_cases c26 : w16.1 = (-1)
        · have hf := pm_it hf c26
          exact wfX16_selects_b48 K18  hf
        · have hf := pm_ie hf c26
          by_cases c27 : w10.1 = w16.1
          · have hf := pm_it hf c27
            exact wfX16_selects_b48 K18  hf
          · have hf := pm_ie hf c27
            exact wfX16_selects_b52 K18  hf
    · have hf := pm_ie hf c24
      exact wfX16_selects_b52 K18  hf
  · have hf := pm_ie hf c21
    exact wfX16_selects_b52 K18  hf
abbrev WX16_signed : List Nat := [2055, 2056, 2059]
set_option maxHeartbeats 4000000 in
set_option maxRecDepth 100000 in
theorem wlX16_signed {h0 : pm_H} {r : ((Nat × pm_H) ⊕ (Int64 × pm_H))} : ∀ n : Nat, (∀ (x0 : Nat) (x1 : Int32) (x2 : Int32) (x3 : Int64) (x5 : Int32) (h : pm_H), pw_F WX16_signed h0 h → pm_iter sX16_signed n (.inl (x0, x1, x2, x3, x5, h)) = some r → pt_WJ WX16_signed h0 r) ∧ (∀ (x0 : Nat) (x1 : Int32) (x2 : Int32) (x3 : Int64) (x5 : Int32) (x6 : Int32) (h : pm_H), pw_F WX16_signed h0 h → pm_iter sX16_signed n (.inr (.inl (x0, x1, x2, x3, x5, x6, h))) = some r → pt_WJ WX16_signed h0 r) ∧ (∀ (x0 : Nat) (x1 : Int32) (x2 : Int32) (x3 : Int64) (x5 : Int32) (x6 : Int32) (s0 : Int32) (s1 : Int32) (h : pm_H), pw_F WX16_signed h0 h → pm_iter sX16_signed n (.inr (.inr (x0, x1, x2, x3, x5, x6, s0, s1, h))) = some r → pt_WJ WX16_signed h0 r) := by
  intro n
  induction n with
  | zero => exact ⟨fun _ _ _ _ _ _ _ hf => (by cases hf), fun _ _ _ _ _ _ _ _ hf => (by cases hf), fun _ _ _ _ _ _ _ _ _ _ hf => (by cases hf)⟩
  | succ n ih =>
    refine ⟨fun x0 x1 x2 x3 x5 h K0 hf => ?_, ?_⟩
    · obtain ⟨y, hf, hi⟩ := pm_iter_s hf
      have hf : tX16_signed_18 x0 x1 x2 x3 x5 h = some y := hf
      unfold tX16_signed_18 at hf
      by_cases c2 : x2 ≤ x5
      · have hf := pm_it hf c2
        cases hf
        cases hi
        exact K0
      · have hf := pm_ie hf c2
        obtain ⟨k3, hf⟩ := pm_if hf
        obtain ⟨v4, e5, hf⟩ := pm_bd hf
        rcases v4 with z7 | w6
        · have hf := pt_sl hf
          cases hf
          cases hi
          exact pw_t (by decide) K0 (show pw_F _ _ z7.2 from wfX16_next (pw_rf _) e5)
        have K8 := pw_t (by decide) K0 (show pw_F _ _ w6.2 from wfX16_next (pw_rf _) e5)
        have hf := pt_sr hf
        by_cases c9 : x5 = (x2 - 1)
        · have hf := pm_it hf c9
          obtain ⟨y10, e11, hf⟩ := pm_lt hf
          obtain ⟨y12, e13, hf⟩ := pm_lt hf
          obtain ⟨y14, e15, hf⟩ := pm_lt hf
          by_cases c16 : 127 < w6.1
          · have hf := pm_it hf c16
            obtain ⟨k17, hf⟩ := pm_if hf
            obtain ⟨v18, e19, hf⟩ := pm_bd hf
            rcases v18 with z21 | w20
            · have hf := pt_sl hf
              cases hf
              cases hi
              exact pw_t (by decide) K8 (show pw_F _ _ z21.2 from wfX16_stops (pw_rf _) e19)
            have K22 := pw_t (by decide) K8 (show pw_F _ _ w20 from wfX16_stops (pw_rf _) e19)
            have hf := pt_sr hf
            cases hf
            exact ih.2.1 x0 x1 x2 x3 x5 w6.1 w20 K22  hi
          · have hf := pm_ie hf c16
            by_cases c23 : y14 = 1
            · have hf := pm_it hf c23
              cases hf
              exact ih.2.2 x0 x1 x2 x3 x5 w6.1 (((1 : Int32) <<< ((7 - y10) &&& 31)) - 1) y12 w6.2 K8  hi
            · have hf := pm_ie hf c23
              cases hf
              exact ih.2.2 x0 x1 x2 x3 x5 w6.1 0 y12 w6.2 K8  hi
        · have hf := pm_ie hf c9
          cases hf
          exact ih.2.1 x0 x1 x2 x3 x5 w6.1 w6.2 K8  hi
    refine ⟨fun x0 x1 x2 x3 x5 x6 h K0 hf => ?_, ?_⟩
    · obtain ⟨y, hf, hi⟩ := pm_iter_s hf
      have hf : tX16_signed_110 x0 x1 x2 x3 x5 x6 h = some y := hf
      unfold tX16_signed_110 at hf
      obtain ⟨y24, e25, hf⟩ := pm_lt hf
      by_cases c26 : 128 ≤ x6
      · have hf := pm_it hf c26
        obtain ⟨y27, e28, hf⟩ := pm_lt hf
        cases hf
        exact ih.1 x0 x1 x2 y24 y27 h K0  hi
      · have hf := pm_ie hf c26
        by_cases c29 : 64 ≤ ((7 * x5) + 7)
        · have hf := pm_it hf c29
          cases hf
          cases hi
          exact K0
        · have hf := pm_ie hf c29
          by_cases c30 : (x6 &&& 64) = 0
          · have hf := pm_it hf c30
            cases hf
            cases hi
            exact K0
          · have hf := pm_ie hf c30
            cases hf
            cases hi
            exact K0
    refine fun x0 x1 x2 x3 x5 x6 s0 s1 h K0 hf => ?_
    obtain ⟨y, hf, hi⟩ := pm_iter_s hf
    have hf : tX16_signed_96 x0 x1 x2 x3 x5 x6 s0 s1 h = some y := hf
    unfold tX16_signed_96 at hf
    by_cases c31 : s1 = s0
    · have hf := pm_it hf c31
      cases hf
      exact ih.2.1 x0 x1 x2 x3 x5 x6 h K0  hi
    · have hf := pm_ie hf c31
      obtain ⟨k32, hf⟩ := pm_if hf
      obtain ⟨v33, e34, hf⟩ := pm_bd hf
      rcases v33 with z36 | w35
      · have hf := pt_sl hf
        cases hf
        cases hi
        exact pw_t (by decide) K0 (show pw_F _ _ z36.2 from wfX16_stops (pw_rf _) e34)
      have K37 := pw_t (by decide) K0 (show pw_F _ _ w35 from wfX16_stops (pw_rf _) e34)
      have hf := pt_sr hf
      cases hf
      exact ih.2.1 x0 x1 x2 x3 x5 x6 w35 K37  hi
set_option maxHeartbeats 4000000 in
set_option maxRecDepth 100000 in
theorem wfX16_signed {h0 h : pm_H} (K0 : pw_F WX16_signed h0 h) {a0 : Nat} {p1 : Int32}  {r : ((Nat × pm_H) ⊕ (Int64 × pm_H))} (hf : fX16_signed h a0 p1 = some r) : pt_WJ WX16_signed h0 r := by
  unfold fX16_signed at hf
  by_cases c1 : p1 = 64
  · have hf := pm_it hf c1
    obtain ⟨n, hn⟩ := pm_lim_iter hf
    exact (wlX16_signed n).1 a0 p1 10 0 0 h K0  hn
  · have hf := pm_ie hf c1
    obtain ⟨n, hn⟩ := pm_lim_iter hf
    exact (wlX16_signed n).1 a0 p1 5 0 0 h K0  hn
