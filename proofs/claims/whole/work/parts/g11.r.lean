set_option maxHeartbeats 4000000 in
set_option maxRecDepth 100000 in
theorem rlX1_init {A : Nat → Prop} {h0 : pm_H} {r : pm_H} : ∀ n : Nat, (∀ (x0 : Nat) (x1 : Nat) (x2 : Nat) (h : pm_H), pr_F A h0 h → A x0 → A x1 → A x2 → pm_iter sX1_init n (.inl (x0, x1, x2, h)) = some r → pr_F A h0 r) ∧ (∀ (x0 : Nat) (x1 : Nat) (x2 : Nat) (s0 : Nat) (s1 : Nat) (h : pm_H), pr_F A h0 h → A x0 → A x1 → A x2 → A s0 → A s1 → pm_iter sX1_init n (.inr (.inl (x0, x1, x2, s0, s1, h))) = some r → pr_F A h0 r) ∧ (∀ (x0 : Nat) (x1 : Nat) (x2 : Nat) (s0 : Nat) (s1 : Nat) (h : pm_H), pr_F A h0 h → A x0 → A x1 → A x2 → A s0 → A s1 → pm_iter sX1_init n (.inr (.inr (.inl (x0, x1, x2, s0, s1, h)))) = some r → pr_F A h0 r) ∧ (∀ (x0 : Nat) (x1 : Nat) (x2 : Nat) (s0 : Nat) (s1 : Nat) (h : pm_H), pr_F A h0 h → A x0 → A x1 → A x2 → A s0 → A s1 → pm_iter sX1_init n (.inr (.inr (.inr (.inl (x0, x1, x2, s0, s1, h))))) = some r → pr_F A h0 r) ∧ (∀ (x0 : Nat) (x1 : Nat) (x2 : Nat) (s0 : Nat) (s1 : Nat) (h : pm_H), pr_F A h0 h → A x0 → A x1 → A x2 → A s0 → A s1 → pm_iter sX1_init n (.inr (.inr (.inr (.inr (.inl (x0, x1, x2, s0, s1, h)))))) = some r → pr_F A h0 r) ∧ (∀ (x0 : Nat) (x1 : Nat) (x2 : Nat) (s0 : Nat) (s1 : Nat) (h : pm_H), pr_F A h0 h → A x0 → A x1 → A x2 → A s0 → A s1 → pm_iter sX1_init n (.inr (.inr (.inr (.inr (.inr (.inl (x0, x1, x2, s0, s1, h))))))) = some r → pr_F A h0 r) ∧ (∀ (x0 : Nat) (x1 : Nat) (x2 : Nat) (s0 : Nat) (s1 : Nat) (h : pm_H), pr_F A h0 h → A x0 → A x1 → A x2 → A s0 → A s1 → pm_iter sX1_init n (.inr (.inr (.inr (.inr (.inr (.inr (.inl (x0, x1, x2, s0, s1, h)))))))) = some r → pr_F A h0 r) ∧ (∀ (x0 : Nat) (x1 : Nat) (x2 : Nat) (s0 : Nat) (s1 : Nat) (h : pm_H), pr_F A h0 h → A x0 → A x1 → A x2 → A s0 → A s1 → pm_iter sX1_init n (.inr (.inr (.inr (.inr (.inr (.inr (.inr (.inl (x0, x1, x2, s0, s1, h))))))))) = some r → pr_F A h0 r) ∧ (∀ (x0 : Nat) (s0 : Nat) (s1 : Nat) (h : pm_H), pr_F A h0 h → A x0 → A s0 → A s1 → pm_iter sX1_init n (.inr (.inr (.inr (.inr (.inr (.inr (.inr (.inr (.inl (x0, s0, s1, h)))))))))) = some r → pr_F A h0 r) ∧ (∀ (x0 : Nat) (s0 : Nat) (s1 : Nat) (s2 : Nat) (s3 : Nat) (h : pm_H), pr_F A h0 h → A x0 → A s0 → A s1 → A s2 → A s3 → pm_iter sX1_init n (.inr (.inr (.inr (.inr (.inr (.inr (.inr (.inr (.inr (.inl (x0, s0, s1, s2, s3, h))))))))))) = some r → pr_F A h0 r) ∧ (∀ (x0 : Nat) (s0 : Nat) (s1 : Nat) (h : pm_H), pr_F A h0 h → A x0 → A s0 → A s1 → pm_iter sX1_init n (.inr (.inr (.inr (.inr (.inr (.inr (.inr (.inr (.inr (.inr (.inl (x0, s0, s1, h)))))))))))) = some r → pr_F A h0 r) ∧ (∀ (x0 : Nat) (s0 : Nat) (s1 : Int32) (s2 : Nat) (h : pm_H), pr_F A h0 h → A x0 → A s0 → A s2 → pm_iter sX1_init n (.inr (.inr (.inr (.inr (.inr (.inr (.inr (.inr (.inr (.inr (.inr (.inl (x0, s0, s1, s2, h))))))))))))) = some r → pr_F A h0 r) ∧ (∀ (x0 : Nat) (x3 : Int32) (h : pm_H), pr_F A h0 h → A x0 → pm_iter sX1_init n (.inr (.inr (.inr (.inr (.inr (.inr (.inr (.inr (.inr (.inr (.inr (.inr (.inl (x0, x3, h)))))))))))))) = some r → pr_F A h0 r) ∧ (∀ (x0 : Nat) (x3 : Int32) (s0 : Nat) (s1 : Int32) (s2 : Nat) (h : pm_H), pr_F A h0 h → A x0 → A s0 → A s2 → pm_iter sX1_init n (.inr (.inr (.inr (.inr (.inr (.inr (.inr (.inr (.inr (.inr (.inr (.inr (.inr (x0, x3, s0, s1, s2, h)))))))))))))) = some r → pr_F A h0 r) := by
  intro n
  induction n with
  | zero => exact ⟨fun _ _ _ _ _ _ _ _ hf => (by cases hf), fun _ _ _ _ _ _ _ _ _ _ _ _ hf => (by cases hf), fun _ _ _ _ _ _ _ _ _ _ _ _ hf => (by cases hf), fun _ _ _ _ _ _ _ _ _ _ _ _ hf => (by cases hf), fun _ _ _ _ _ _ _ _ _ _ _ _ hf => (by cases hf), fun _ _ _ _ _ _ _ _ _ _ _ _ hf => (by cases hf), fun _ _ _ _ _ _ _ _ _ _ _ _ hf => (by cases hf), fun _ _ _ _ _ _ _ _ _ _ _ _ hf => (by cases hf), fun _ _ _ _ _ _ _ _ hf => (by cases hf), fun _ _ _ _ _ _ _ _ _ _ _ _ hf => (by cases hf), fun _ _ _ _ _ _ _ _ hf => (by cases hf), fun _ _ _ _ _ _ _ _ _ hf => (by cases hf), fun _ _ _ _ _ hf => (by cases hf), fun _ _ _ _ _ _ _ _ _ _ hf => (by cases hf)⟩
  | succ n ih =>
    refine ⟨fun x0 x1 x2 h K0 Hx0 Hx1 Hx2 hf => ?_, ?_⟩
    · obtain ⟨y, hf, hi⟩ := pm_iter_s hf
      have hf : tX1_init_0 x0 x1 x2 h = some y := hf
      unfold tX1_init_0 at hf
      cases hf
      exact ih.2.1 x0 x1 x2 (pm_sz h) x0 (pm_new h 32 0) (pr_new K0) Hx0 Hx1 Hx2 (pr_n K0) Hx0 hi
    refine ⟨fun x0 x1 x2 s0 s1 h K0 Hx0 Hx1 Hx2 Hs0 Hs1 hf => ?_, ?_⟩
    · obtain ⟨y, hf, hi⟩ := pm_iter_s hf
      have hf : tX1_init_8 x0 x1 x2 s0 s1 h = some y := hf
      unfold tX1_init_8 at hf
      obtain ⟨k1, hf⟩ := pm_if hf
      cases hf
      exact ih.2.2.1 x0 x1 x2 (pm_sz (pm_setR h s1 4 (some s0))) x0 (pm_new (pm_setR h s1 4 (some s0)) 34 1000) (pr_new (pr_sR K0 Hs1 Hs0)) Hx0 Hx1 Hx2 (pr_n (pr_sR K0 Hs1 Hs0)) Hx0 hi
    refine ⟨fun x0 x1 x2 s0 s1 h K0 Hx0 Hx1 Hx2 Hs0 Hs1 hf => ?_, ?_⟩
    · obtain ⟨y, hf, hi⟩ := pm_iter_s hf
      have hf : tX1_init_17 x0 x1 x2 s0 s1 h = some y := hf
      unfold tX1_init_17 at hf
      obtain ⟨k2, hf⟩ := pm_if hf
      cases hf
      exact ih.2.2.2.1 x0 x1 x2 (pm_sz (pm_setR h s1 5 (some s0))) x0 (pm_new (pm_setR h s1 5 (some s0)) 34 1400) (pr_new (pr_sR K0 Hs1 Hs0)) Hx0 Hx1 Hx2 (pr_n (pr_sR K0 Hs1 Hs0)) Hx0 hi
    refine ⟨fun x0 x1 x2 s0 s1 h K0 Hx0 Hx1 Hx2 Hs0 Hs1 hf => ?_, ?_⟩
    · obtain ⟨y, hf, hi⟩ := pm_iter_s hf
      have hf : tX1_init_26 x0 x1 x2 s0 s1 h = some y := hf
      unfold tX1_init_26 at hf
      obtain ⟨k3, hf⟩ := pm_if hf
      cases hf
      exact ih.2.2.2.2.1 x0 x1 x2 (pm_sz (pm_setR h s1 9 (some s0))) x0 (pm_new (pm_setR h s1 9 (some s0)) 34 1016) (pr_new (pr_sR K0 Hs1 Hs0)) Hx0 Hx1 Hx2 (pr_n (pr_sR K0 Hs1 Hs0)) Hx0 hi
    refine ⟨fun x0 x1 x2 s0 s1 h K0 Hx0 Hx1 Hx2 Hs0 Hs1 hf => ?_, ?_⟩
    · obtain ⟨y, hf, hi⟩ := pm_iter_s hf
      have hf : tX1_init_35 x0 x1 x2 s0 s1 h = some y := hf
      unfold tX1_init_35 at hf
      obtain ⟨k4, hf⟩ := pm_if hf
      cases hf
      exact ih.2.2.2.2.2.1 x0 x1 x2 (pm_sz (pm_setR h s1 11 (some s0))) x0 (pm_new (pm_setR h s1 11 (some s0)) 34 2000) (pr_new (pr_sR K0 Hs1 Hs0)) Hx0 Hx1 Hx2 (pr_n (pr_sR K0 Hs1 Hs0)) Hx0 hi
    refine ⟨fun x0 x1 x2 s0 s1 h K0 Hx0 Hx1 Hx2 Hs0 Hs1 hf => ?_, ?_⟩
    · obtain ⟨y, hf, hi⟩ := pm_iter_s hf
      have hf : tX1_init_44 x0 x1 x2 s0 s1 h = some y := hf
      unfold tX1_init_44 at hf
      obtain ⟨k5, hf⟩ := pm_if hf
      cases hf
      exact ih.2.2.2.2.2.2.1 x0 x1 x2 (pm_sz (pm_setR h s1 13 (some s0))) x0 (pm_new (pm_setR h s1 13 (some s0)) 34 16) (pr_new (pr_sR K0 Hs1 Hs0)) Hx0 Hx1 Hx2 (pr_n (pr_sR K0 Hs1 Hs0)) Hx0 hi
    refine ⟨fun x0 x1 x2 s0 s1 h K0 Hx0 Hx1 Hx2 Hs0 Hs1 hf => ?_, ?_⟩
    · obtain ⟨y, hf, hi⟩ := pm_iter_s hf
      have hf : tX1_init_52 x0 x1 x2 s0 s1 h = some y := hf
      unfold tX1_init_52 at hf
      obtain ⟨k6, hf⟩ := pm_if hf
      cases hf
      exact ih.2.2.2.2.2.2.2.1 x0 x1 x2 (pm_sz (pm_setR h s1 15 (some s0))) x0 (pm_ma (pm_setR h s1 15 (some s0)) 4 2 128 128) (pr_ma (pr_sR K0 Hs1 Hs0)) Hx0 Hx1 Hx2 (pr_n (pr_sR K0 Hs1 Hs0)) Hx0 hi
    refine ⟨fun x0 x1 x2 s0 s1 h K0 Hx0 Hx1 Hx2 Hs0 Hs1 hf => ?_, ?_⟩
    · obtain ⟨y, hf, hi⟩ := pm_iter_s hf
      have hf : tX1_init_64 x0 x1 x2 s0 s1 h = some y := hf
      unfold tX1_init_64 at hf
      obtain ⟨k7, hf⟩ := pm_if hf
      obtain ⟨k8, hf⟩ := pm_if hf
      cases hf
      exact ih.2.2.2.2.2.2.2.2.1 x0 (pm_sz (pm_setR (pm_setR (pm_setR h s1 16 (some s0)) x0 3 (some x1)) x0 2 (some x2))) x0 (pm_new (pm_setR (pm_setR (pm_setR h s1 16 (some s0)) x0 3 (some x1)) x0 2 (some x2)) 0 0) (pr_new (pr_sR (pr_sR (pr_sR K0 Hs1 Hs0) Hx0 Hx1) Hx0 Hx2)) Hx0 (pr_n (pr_sR (pr_sR (pr_sR K0 Hs1 Hs0) Hx0 Hx1) Hx0 Hx2)) Hx0 hi
    refine ⟨fun x0 s0 s1 h K0 Hx0 Hs0 Hs1 hf => ?_, ?_⟩
    · obtain ⟨y, hf, hi⟩ := pm_iter_s hf
      have hf : tX1_init_81 x0 s0 s1 h = some y := hf
      unfold tX1_init_81 at hf
      cases hf
      exact ih.2.2.2.2.2.2.2.2.2.1 x0 (pm_sz h) s0 s0 s1 (pm_new h 34 2) (pr_new K0) Hx0 (pr_n K0) Hs0 Hs0 Hs1 hi
    refine ⟨fun x0 s0 s1 s2 s3 h K0 Hx0 Hs0 Hs1 Hs2 Hs3 hf => ?_, ?_⟩
    · obtain ⟨y, hf, hi⟩ := pm_iter_s hf
      have hf : tX1_init_85 x0 s0 s1 s2 s3 h = some y := hf
      unfold tX1_init_85 at hf
      obtain ⟨v9, e10, hf⟩ := pm_bd hf
      have K11 := rgX0_init K0 Hs1 Hs0 e10
      cases hf
      exact ih.2.2.2.2.2.2.2.2.2.2.1 x0 s2 s3 v9 K11 Hx0 Hs2 Hs3 hi
    refine ⟨fun x0 s0 s1 h K0 Hx0 Hs0 Hs1 hf => ?_, ?_⟩
    · obtain ⟨y, hf, hi⟩ := pm_iter_s hf
      have hf : tX1_init_89 x0 s0 s1 h = some y := hf
      unfold tX1_init_89 at hf
      obtain ⟨k12, hf⟩ := pm_if hf
      obtain ⟨k13, hf⟩ := pm_if hf
      obtain ⟨v14, e15, hf⟩ := pm_bd hf
      cases hf
      exact ih.2.2.2.2.2.2.2.2.2.2.2.1 x0 (pm_sz (pm_setR h s1 17 (some s0))) 64 v14 (pm_new (pm_setR h s1 17 (some s0)) 34 2) (pr_new (pr_sR K0 Hs1 Hs0)) Hx0 (pr_n (pr_sR K0 Hs1 Hs0)) (pr_c (pr_sR K0 Hs1 Hs0) Hx0 e15) hi
    refine ⟨fun x0 s0 s1 s2 h K0 Hx0 Hs0 Hs2 hf => ?_, ?_⟩
    · obtain ⟨y, hf, hi⟩ := pm_iter_s hf
      have hf : tX1_init_101 x0 s0 s1 s2 h = some y := hf
      unfold tX1_init_101 at hf
      obtain ⟨k16, hf⟩ := pm_if hf
      obtain ⟨k17, hf⟩ := pm_if hf
      obtain ⟨u18, hf⟩ := pm_if hf
      cases hf
      exact ih.2.2.2.2.2.2.2.2.2.2.2.2.1 x0 111 (pm_setR h s2 s1.toNatClampNeg (some s0)) (pr_sR K0 Hs2 Hs0) Hx0 hi
    refine ⟨fun x0 x3 h K0 Hx0 hf => ?_, ?_⟩
    · obtain ⟨y, hf, hi⟩ := pm_iter_s hf
      have hf : tX1_init_105 x0 x3 h = some y := hf
      unfold tX1_init_105 at hf
      by_cases c19 : 127 < x3
      · have hf := pm_it hf c19
        have hf := Option.some.inj hf
        subst hf
        have hi := Option.some.inj (show some _ = some r from hi)
        subst hi
        exact K0
      · have hf := pm_ie hf c19
        obtain ⟨k20, hf⟩ := pm_if hf
        obtain ⟨v21, e22, hf⟩ := pm_bd hf
        cases hf
        exact ih.2.2.2.2.2.2.2.2.2.2.2.2.2 x0 x3 (pm_sz h) x3 v21 (pm_new h 34 3) (pr_new K0) Hx0 (pr_n K0) (pr_c K0 Hx0 e22) hi
    refine fun x0 x3 s0 s1 s2 h K0 Hx0 Hs0 Hs2 hf => ?_
    obtain ⟨y, hf, hi⟩ := pm_iter_s hf
    have hf : tX1_init_119 x0 x3 s0 s1 s2 h = some y := hf
    unfold tX1_init_119 at hf
    obtain ⟨k23, hf⟩ := pm_if hf
    obtain ⟨u24, hf⟩ := pm_if hf
    obtain ⟨u25, hf⟩ := pm_if hf
    obtain ⟨u26, hf⟩ := pm_if hf
    obtain ⟨k27, hf⟩ := pm_if hf
    obtain ⟨u28, hf⟩ := pm_if hf
    obtain ⟨y29, e30, hf⟩ := pm_lt hf
    cases hf
    exact ih.2.2.2.2.2.2.2.2.2.2.2.2.1 x0 y29 (pm_setR (pm_setI (pm_setI (pm_setI h s0 ((0 : Int32).toNatClampNeg) 0) s0 ((1 : Int32).toNatClampNeg) 1) s0 ((2 : Int32).toNatClampNeg) x3) s2 s1.toNatClampNeg (some s0)) (pr_sR (pr_sI (pr_sI (pr_sI K0 Hs0) Hs0) Hs0) Hs2 Hs0) Hx0 hi
set_option maxHeartbeats 4000000 in
set_option maxRecDepth 100000 in
theorem rgX1_init {A : Nat → Prop} {h0 h : pm_H} (K0 : pr_F A h0 h) {a0 : Nat} {p1 : Nat} {p2 : Nat} (Ha0 : A a0) (Hp1 : A p1) (Hp2 : A p2) {r : pm_H} (hf : fX1_init h a0 p1 p2 = some r) : pr_F A h0 r := by
  unfold fX1_init at hf
  obtain ⟨n, hn⟩ := pm_lim_iter hf
  exact (rlX1_init n).1 a0 p1 p2 h K0 Ha0 Hp1 Hp2 hn
set_option maxHeartbeats 4000000 in
set_option maxRecDepth 100000 in
theorem rgX4_init_b92 {A : Nat → Prop} {h0 h : pm_H} (K0 : pr_F A h0 h) {s0 : Nat} {s1 : Nat} (Hs0 : A s0) (Hs1 : A s1) {r : pm_H} (hf : fX4_init_b92 h s0 s1 = some r) : pr_F A h0 r := by
  unfold fX4_init_b92 at hf
  obtain ⟨k43, hf⟩ := pm_if hf
  have hf := Option.some.inj hf
  subst hf
  exact (pr_sR K0 Hs1 Hs0)
set_option maxHeartbeats 4000000 in
set_option maxRecDepth 100000 in
theorem rgX4_init_b78 {A : Nat → Prop} {h0 h : pm_H} (K0 : pr_F A h0 h) {x0 : Nat} {x1 : Nat} {s0 : Nat} {s1 : Nat} (Hx0 : A x0) (Hx1 : A x1) (Hs0 : A s0) (Hs1 : A s1) {r : pm_H} (hf : fX4_init_b78 h x0 x1 s0 s1 = some r) : pr_F A h0 r := by
  unfold fX4_init_b78 at hf
  obtain ⟨k35, hf⟩ := pm_if hf
  obtain ⟨k36, hf⟩ := pm_if hf
  obtain ⟨v37, e38, hf⟩ := pm_bd hf
  obtain ⟨k39, hf⟩ := pm_if hf
  obtain ⟨y40, e41, hf⟩ := pm_lt hf
  obtain ⟨u42, hf⟩ := pm_if hf
  exact rgX4_init_b92 (pr_new (pr_sR K0 Hs1 Hs0)) (pr_n (pr_sR K0 Hs1 Hs0)) Hx0 hf
set_option maxHeartbeats 4000000 in
set_option maxRecDepth 100000 in
theorem rgX4_init_b67 {A : Nat → Prop} {h0 h : pm_H} (K0 : pr_F A h0 h) {x0 : Nat} {x1 : Nat} {s0 : Nat} {s1 : Nat} (Hx0 : A x0) (Hx1 : A x1) (Hs0 : A s0) (Hs1 : A s1) {r : pm_H} (hf : fX4_init_b67 h x0 x1 s0 s1 = some r) : pr_F A h0 r := by
  unfold fX4_init_b67 at hf
  obtain ⟨k27, hf⟩ := pm_if hf
  obtain ⟨k28, hf⟩ := pm_if hf
  obtain ⟨v29, e30, hf⟩ := pm_bd hf
  obtain ⟨k31, hf⟩ := pm_if hf
  obtain ⟨y32, e33, hf⟩ := pm_lt hf
  obtain ⟨u34, hf⟩ := pm_if hf
  exact rgX4_init_b78 (pr_new (pr_sR K0 Hs1 Hs0)) Hx0 Hx1 (pr_n (pr_sR K0 Hs1 Hs0)) Hx0 hf
set_option maxHeartbeats 4000000 in
set_option maxRecDepth 100000 in
theorem rgX4_init_b50 {A : Nat → Prop} {h0 h : pm_H} (K0 : pr_F A h0 h) {x0 : Nat} {x1 : Nat} {s0 : Nat} {s1 : Nat} (Hx0 : A x0) (Hx1 : A x1) (Hs0 : A s0) (Hs1 : A s1) {r : pm_H} (hf : fX4_init_b50 h x0 x1 s0 s1 = some r) : pr_F A h0 r := by
  unfold fX4_init_b50 at hf
  obtain ⟨k21, hf⟩ := pm_if hf
  obtain ⟨k22, hf⟩ := pm_if hf
  obtain ⟨v23, e24, hf⟩ := pm_bd hf
  obtain ⟨k25, hf⟩ := pm_if hf
  obtain ⟨u26, hf⟩ := pm_if hf
  exact rgX4_init_b67 (pr_ma (pr_sR K0 Hs1 Hs0)) Hx0 Hx1 (pr_n (pr_sR K0 Hs1 Hs0)) Hx0 hf
set_option maxHeartbeats 4000000 in
set_option maxRecDepth 100000 in
theorem rgX4_init_b39 {A : Nat → Prop} {h0 h : pm_H} (K0 : pr_F A h0 h) {x0 : Nat} {x1 : Nat} {s0 : Nat} {s1 : Nat} (Hx0 : A x0) (Hx1 : A x1) (Hs0 : A s0) (Hs1 : A s1) {r : pm_H} (hf : fX4_init_b39 h x0 x1 s0 s1 = some r) : pr_F A h0 r := by
  unfold fX4_init_b39 at hf
  obtain ⟨k16, hf⟩ := pm_if hf
  obtain ⟨k17, hf⟩ := pm_if hf
  obtain ⟨v18, e19, hf⟩ := pm_bd hf
  obtain ⟨u20, hf⟩ := pm_if hf
  exact rgX4_init_b50 (pr_new (pr_sR K0 Hs1 Hs0)) Hx0 Hx1 (pr_n (pr_sR K0 Hs1 Hs0)) Hx0 hf
set_option maxHeartbeats 4000000 in
set_option maxRecDepth 100000 in
theorem rgX4_init_b28 {A : Nat → Prop} {h0 h : pm_H} (K0 : pr_F A h0 h) {x0 : Nat} {x1 : Nat} {s0 : Nat} {s1 : Nat} (Hx0 : A x0) (Hx1 : A x1) (Hs0 : A s0) (Hs1 : A s1) {r : pm_H} (hf : fX4_init_b28 h x0 x1 s0 s1 = some r) : pr_F A h0 r := by
  unfold fX4_init_b28 at hf
  obtain ⟨k11, hf⟩ := pm_if hf
  obtain ⟨k12, hf⟩ := pm_if hf
  obtain ⟨v13, e14, hf⟩ := pm_bd hf
  obtain ⟨u15, hf⟩ := pm_if hf
  exact rgX4_init_b39 (pr_new (pr_sR K0 Hs1 Hs0)) Hx0 Hx1 (pr_n (pr_sR K0 Hs1 Hs0)) Hx0 hf
set_option maxHeartbeats 4000000 in
set_option maxRecDepth 100000 in
theorem rgX4_init_b17 {A : Nat → Prop} {h0 h : pm_H} (K0 : pr_F A h0 h) {x0 : Nat} {x1 : Nat} {s0 : Nat} {s1 : Nat} (Hx0 : A x0) (Hx1 : A x1) (Hs0 : A s0) (Hs1 : A s1) {r : pm_H} (hf : fX4_init_b17 h x0 x1 s0 s1 = some r) : pr_F A h0 r := by
  unfold fX4_init_b17 at hf
  obtain ⟨k6, hf⟩ := pm_if hf
  obtain ⟨k7, hf⟩ := pm_if hf
  obtain ⟨v8, e9, hf⟩ := pm_bd hf
  obtain ⟨u10, hf⟩ := pm_if hf
  exact rgX4_init_b28 (pr_new (pr_sR K0 Hs1 Hs0)) Hx0 Hx1 (pr_n (pr_sR K0 Hs1 Hs0)) Hx0 hf
set_option maxHeartbeats 4000000 in
set_option maxRecDepth 100000 in
theorem rgX4_init_b0 {A : Nat → Prop} {h0 h : pm_H} (K0 : pr_F A h0 h) {x0 : Nat} {x1 : Nat} (Hx0 : A x0) (Hx1 : A x1) {r : pm_H} (hf : fX4_init_b0 h x0 x1 = some r) : pr_F A h0 r := by
  unfold fX4_init_b0 at hf
  obtain ⟨k1, hf⟩ := pm_if hf
  obtain ⟨k2, hf⟩ := pm_if hf
  obtain ⟨v3, e4, hf⟩ := pm_bd hf
  obtain ⟨u5, hf⟩ := pm_if hf
  exact rgX4_init_b17 (pr_new (pr_sR K0 Hx0 Hx1)) Hx0 Hx1 (pr_n (pr_sR K0 Hx0 Hx1)) Hx0 hf
set_option maxHeartbeats 4000000 in
set_option maxRecDepth 100000 in
theorem rgX4_init {A : Nat → Prop} {h0 h : pm_H} (K0 : pr_F A h0 h) {a0 : Nat} {p1 : Nat} (Ha0 : A a0) (Hp1 : A p1) {r : pm_H} (hf : fX4_init h a0 p1 = some r) : pr_F A h0 r := by
  unfold fX4_init at hf
  exact rgX4_init_b0 K0 Ha0 Hp1 hf
set_option maxHeartbeats 4000000 in
set_option maxRecDepth 100000 in
theorem rgX6_init_b35 {A : Nat → Prop} {h0 h : pm_H} (K0 : pr_F A h0 h) {s0 : Nat} {s1 : Nat} (Hs0 : A s0) (Hs1 : A s1) {r : pm_H} (hf : fX6_init_b35 h s0 s1 = some r) : pr_F A h0 r := by
  unfold fX6_init_b35 at hf
  obtain ⟨k4, hf⟩ := pm_if hf
  have hf := Option.some.inj hf
  subst hf
  exact (pr_sR K0 Hs1 Hs0)
set_option maxHeartbeats 4000000 in
set_option maxRecDepth 100000 in
theorem rgX6_init_b23 {A : Nat → Prop} {h0 h : pm_H} (K0 : pr_F A h0 h) {x0 : Nat} {s0 : Nat} {s1 : Nat} (Hx0 : A x0) (Hs0 : A s0) (Hs1 : A s1) {r : pm_H} (hf : fX6_init_b23 h x0 s0 s1 = some r) : pr_F A h0 r := by
  unfold fX6_init_b23 at hf
  obtain ⟨k3, hf⟩ := pm_if hf
  exact rgX6_init_b35 (pr_ma (pr_sR K0 Hs1 Hs0)) (pr_n (pr_sR K0 Hs1 Hs0)) Hx0 hf
set_option maxHeartbeats 4000000 in
set_option maxRecDepth 100000 in
theorem rgX6_init_b15 {A : Nat → Prop} {h0 h : pm_H} (K0 : pr_F A h0 h) {x0 : Nat} {s0 : Nat} {s1 : Nat} (Hx0 : A x0) (Hs0 : A s0) (Hs1 : A s1) {r : pm_H} (hf : fX6_init_b15 h x0 s0 s1 = some r) : pr_F A h0 r := by
  unfold fX6_init_b15 at hf
  obtain ⟨k2, hf⟩ := pm_if hf
  exact rgX6_init_b23 (pr_new (pr_sR K0 Hs1 Hs0)) Hx0 (pr_n (pr_sR K0 Hs1 Hs0)) Hx0 hf
set_option maxHeartbeats 4000000 in
set_option maxRecDepth 100000 in
theorem rgX6_init_b0 {A : Nat → Prop} {h0 h : pm_H} (K0 : pr_F A h0 h) {x0 : Nat} (Hx0 : A x0) {r : pm_H} (hf : fX6_init_b0 h x0 = some r) : pr_F A h0 r := by
  unfold fX6_init_b0 at hf
  obtain ⟨k1, hf⟩ := pm_if hf
  exact rgX6_init_b15 (pr_new (pr_sI K0 Hx0)) Hx0 (pr_n (pr_sI K0 Hx0)) Hx0 hf
set_option maxHeartbeats 4000000 in
set_option maxRecDepth 100000 in
theorem rgX6_init {A : Nat → Prop} {h0 h : pm_H} (K0 : pr_F A h0 h) {a0 : Nat} (Ha0 : A a0) {r : pm_H} (hf : fX6_init h a0 = some r) : pr_F A h0 r := by
  unfold fX6_init at hf
  exact rgX6_init_b0 K0 Ha0 hf
set_option maxHeartbeats 4000000 in
set_option maxRecDepth 100000 in
theorem rlX7_init {A : Nat → Prop} {h0 : pm_H} {r : pm_H} : ∀ n : Nat, (∀ (x0 : Nat) (x1 : Nat) (h : pm_H), pr_F A h0 h → A x0 → A x1 → pm_iter sX7_init n (.inl (x0, x1, h)) = some r → pr_F A h0 r) ∧ (∀ (x0 : Nat) (x1 : Nat) (s0 : Nat) (s1 : Nat) (h : pm_H), pr_F A h0 h → A x0 → A x1 → A s0 → A s1 → pm_iter sX7_init n (.inr (.inl (x0, x1, s0, s1, h))) = some r → pr_F A h0 r) ∧ (∀ (x0 : Nat) (x1 : Nat) (s0 : Nat) (s1 : Nat) (h : pm_H), pr_F A h0 h → A x0 → A x1 → A s0 → A s1 → pm_iter sX7_init n (.inr (.inr (.inl (x0, x1, s0, s1, h)))) = some r → pr_F A h0 r) ∧ (∀ (x0 : Nat) (x1 : Nat) (s0 : Nat) (s1 : Nat) (h : pm_H), pr_F A h0 h → A x0 → A x1 → A s0 → A s1 → pm_iter sX7_init n (.inr (.inr (.inr (.inl (x0, x1, s0, s1, h))))) = some r → pr_F A h0 r) ∧ (∀ (x0 : Nat) (x1 : Nat) (s0 : Nat) (s1 : Nat) (h : pm_H), pr_F A h0 h → A x0 → A x1 → A s0 → A s1 → pm_iter sX7_init n (.inr (.inr (.inr (.inr (.inl (x0, x1, s0, s1, h)))))) = some r → pr_F A h0 r) ∧ (∀ (x0 : Nat) (x1 : Nat) (s0 : Nat) (s1 : Nat) (h : pm_H), pr_F A h0 h → A x0 → A x1 → A s0 → A s1 → pm_iter sX7_init n (.inr (.inr (.inr (.inr (.inr (.inl (x0, x1, s0, s1, h))))))) = some r → pr_F A h0 r) ∧ (∀ (x0 : Nat) (x1 : Nat) (s0 : Nat) (s1 : Nat) (h : pm_H), pr_F A h0 h → A x0 → A x1 → A s0 → A s1 → pm_iter sX7_init n (.inr (.inr (.inr (.inr (.inr (.inr (.inl (x0, x1, s0, s1, h)))))))) = some r → pr_F A h0 r) ∧ (∀ (x0 : Nat) (x1 : Nat) (s0 : Nat) (s1 : Nat) (h : pm_H), pr_F A h0 h → A x0 → A x1 → A s0 → A s1 → pm_iter sX7_init n (.inr (.inr (.inr (.inr (.inr (.inr (.inr (.inl (x0, x1, s0, s1, h))))))))) = some r → pr_F A h0 r) ∧ (∀ (x0 : Nat) (x1 : Nat) (s0 : Nat) (s1 : Nat) (h : pm_H), pr_F A h0 h → A x0 → A x1 → A s0 → A s1 → pm_iter sX7_init n (.inr (.inr (.inr (.inr (.inr (.inr (.inr (.inr (.inl (x0, x1, s0, s1, h)))))))))) = some r → pr_F A h0 r) ∧ (∀ (x0 : Nat) (x1 : Nat) (s0 : Nat) (s1 : Nat) (h : pm_H), pr_F A h0 h → A x0 → A x1 → A s0 → A s1 → pm_iter sX7_init n (.inr (.inr (.inr (.inr (.inr (.inr (.inr (.inr (.inr (.inl (x0, x1, s0, s1, h))))))))))) = some r → pr_F A h0 r) ∧ (∀ (x0 : Nat) (x1 : Nat) (s0 : Nat) (s1 : Nat) (h : pm_H), pr_F A h0 h → A x0 → A x1 → A s0 → A s1 → pm_iter sX7_init n (.inr (.inr (.inr (.inr (.inr (.inr (.inr (.inr (.inr (.inr (.inl (x0, x1, s0, s1, h)))))))))))) = some r → pr_F A h0 r) ∧ (∀ (x0 : Nat) (x1 : Nat) (s0 : Nat) (s1 : Nat) (h : pm_H), pr_F A h0 h → A x0 → A x1 → A s0 → A s1 → pm_iter sX7_init n (.inr (.inr (.inr (.inr (.inr (.inr (.inr (.inr (.inr (.inr (.inr (.inl (x0, x1, s0, s1, h))))))))))))) = some r → pr_F A h0 r) ∧ (∀ (x0 : Nat) (x1 : Nat) (s0 : Nat) (s1 : Nat) (h : pm_H), pr_F A h0 h → A x0 → A x1 → A s0 → A s1 → pm_iter sX7_init n (.inr (.inr (.inr (.inr (.inr (.inr (.inr (.inr (.inr (.inr (.inr (.inr (.inl (x0, x1, s0, s1, h)))))))))))))) = some r → pr_F A h0 r) ∧ (∀ (x0 : Nat) (x2 : Int32) (h : pm_H), pr_F A h0 h → A x0 → pm_iter sX7_init n (.inr (.inr (.inr (.inr (.inr (.inr (.inr (.inr (.inr (.inr (.inr (.inr (.inr (x0, x2, h)))))))))))))) = some r → pr_F A h0 r) := by
  intro n
  induction n with
  | zero => exact ⟨fun _ _ _ _ _ _ hf => (by cases hf), fun _ _ _ _ _ _ _ _ _ _ hf => (by cases hf), fun _ _ _ _ _ _ _ _ _ _ hf => (by cases hf), fun _ _ _ _ _ _ _ _ _ _ hf => (by cases hf), fun _ _ _ _ _ _ _ _ _ _ hf => (by cases hf), fun _ _ _ _ _ _ _ _ _ _ hf => (by cases hf), fun _ _ _ _ _ _ _ _ _ _ hf => (by cases hf), fun _ _ _ _ _ _ _ _ _ _ hf => (by cases hf), fun _ _ _ _ _ _ _ _ _ _ hf => (by cases hf), fun _ _ _ _ _ _ _ _ _ _ hf => (by cases hf), fun _ _ _ _ _ _ _ _ _ _ hf => (by cases hf), fun _ _ _ _ _ _ _ _ _ _ hf => (by cases hf), fun _ _ _ _ _ _ _ _ _ _ hf => (by cases hf), fun _ _ _ _ _ hf => (by cases hf)⟩
  | succ n ih =>
    refine ⟨fun x0 x1 h K0 Hx0 Hx1 hf => ?_, ?_⟩
    · obtain ⟨y, hf, hi⟩ := pm_iter_s hf
      have hf : tX7_init_0 x0 x1 h = some y := hf
      unfold tX7_init_0 at hf
      cases hf
      exact ih.2.1 x0 x1 (pm_sz h) x0 (pm_new h 34 13) (pr_new K0) Hx0 Hx1 (pr_n K0) Hx0 hi
    refine ⟨fun x0 x1 s0 s1 h K0 Hx0 Hx1 Hs0 Hs1 hf => ?_, ?_⟩
    · obtain ⟨y, hf, hi⟩ := pm_iter_s hf
      have hf : tX7_init_9 x0 x1 s0 s1 h = some y := hf
      unfold tX7_init_9 at hf
      obtain ⟨k1, hf⟩ := pm_if hf
      cases hf
      exact ih.2.2.1 x0 x1 (pm_sz (pm_setR h s1 1 (some s0))) x0 (pm_ma (pm_setR h s1 1 (some s0)) 4 2 0 0) (pr_ma (pr_sR K0 Hs1 Hs0)) Hx0 Hx1 (pr_n (pr_sR K0 Hs1 Hs0)) Hx0 hi
    refine ⟨fun x0 x1 s0 s1 h K0 Hx0 Hx1 Hs0 Hs1 hf => ?_, ?_⟩
    · obtain ⟨y, hf, hi⟩ := pm_iter_s hf
      have hf : tX7_init_19 x0 x1 s0 s1 h = some y := hf
      unfold tX7_init_19 at hf
      obtain ⟨k2, hf⟩ := pm_if hf
      cases hf
      exact ih.2.2.2.1 x0 x1 (pm_sz (pm_setR h s1 2 (some s0))) x0 (pm_new (pm_setR h s1 2 (some s0)) 35 0) (pr_new (pr_sR K0 Hs1 Hs0)) Hx0 Hx1 (pr_n (pr_sR K0 Hs1 Hs0)) Hx0 hi
    refine ⟨fun x0 x1 s0 s1 h K0 Hx0 Hx1 Hs0 Hs1 hf => ?_, ?_⟩
    · obtain ⟨y, hf, hi⟩ := pm_iter_s hf
      have hf : tX7_init_26 x0 x1 s0 s1 h = some y := hf
      unfold tX7_init_26 at hf
      obtain ⟨k3, hf⟩ := pm_if hf
      cases hf
      exact ih.2.2.2.2.1 x0 x1 (pm_sz (pm_setR h s1 3 (some s0))) x0 (pm_new (pm_setR h s1 3 (some s0)) 35 0) (pr_new (pr_sR K0 Hs1 Hs0)) Hx0 Hx1 (pr_n (pr_sR K0 Hs1 Hs0)) Hx0 hi
    refine ⟨fun x0 x1 s0 s1 h K0 Hx0 Hx1 Hs0 Hs1 hf => ?_, ?_⟩
    · obtain ⟨y, hf, hi⟩ := pm_iter_s hf
      have hf : tX7_init_33 x0 x1 s0 s1 h = some y := hf
      unfold tX7_init_33 at hf
      obtain ⟨k4, hf⟩ := pm_if hf
      cases hf
      exact ih.2.2.2.2.2.1 x0 x1 (pm_sz (pm_setR h s1 4 (some s0))) x0 (pm_new (pm_setR h s1 4 (some s0)) 35 0) (pr_new (pr_sR K0 Hs1 Hs0)) Hx0 Hx1 (pr_n (pr_sR K0 Hs1 Hs0)) Hx0 hi
    refine ⟨fun x0 x1 s0 s1 h K0 Hx0 Hx1 Hs0 Hs1 hf => ?_, ?_⟩
    · obtain ⟨y, hf, hi⟩ := pm_iter_s hf
      have hf : tX7_init_40 x0 x1 s0 s1 h = some y := hf
      unfold tX7_init_40 at hf
      obtain ⟨k5, hf⟩ := pm_if hf
      cases hf
      exact ih.2.2.2.2.2.2.1 x0 x1 (pm_sz (pm_setR h s1 5 (some s0))) x0 (pm_new (pm_setR h s1 5 (some s0)) 35 0) (pr_new (pr_sR K0 Hs1 Hs0)) Hx0 Hx1 (pr_n (pr_sR K0 Hs1 Hs0)) Hx0 hi
    refine ⟨fun x0 x1 s0 s1 h K0 Hx0 Hx1 Hs0 Hs1 hf => ?_, ?_⟩
    · obtain ⟨y, hf, hi⟩ := pm_iter_s hf
      have hf : tX7_init_47 x0 x1 s0 s1 h = some y := hf
      unfold tX7_init_47 at hf
      obtain ⟨k6, hf⟩ := pm_if hf
      cases hf
      exact ih.2.2.2.2.2.2.2.1 x0 x1 (pm_sz (pm_setR h s1 6 (some s0))) x0 (pm_new (pm_setR h s1 6 (some s0)) 35 0) (pr_new (pr_sR K0 Hs1 Hs0)) Hx0 Hx1 (pr_n (pr_sR K0 Hs1 Hs0)) Hx0 hi
    refine ⟨fun x0 x1 s0 s1 h K0 Hx0 Hx1 Hs0 Hs1 hf => ?_, ?_⟩
    · obtain ⟨y, hf, hi⟩ := pm_iter_s hf
      have hf : tX7_init_54 x0 x1 s0 s1 h = some y := hf
      unfold tX7_init_54 at hf
      obtain ⟨k7, hf⟩ := pm_if hf
      cases hf
      exact ih.2.2.2.2.2.2.2.2.1 x0 x1 (pm_sz (pm_setR h s1 7 (some s0))) x0 (pm_new (pm_setR h s1 7 (some s0)) 34 0) (pr_new (pr_sR K0 Hs1 Hs0)) Hx0 Hx1 (pr_n (pr_sR K0 Hs1 Hs0)) Hx0 hi
    refine ⟨fun x0 x1 s0 s1 h K0 Hx0 Hx1 Hs0 Hs1 hf => ?_, ?_⟩
    · obtain ⟨y, hf, hi⟩ := pm_iter_s hf
      have hf : tX7_init_61 x0 x1 s0 s1 h = some y := hf
      unfold tX7_init_61 at hf
      obtain ⟨k8, hf⟩ := pm_if hf
      cases hf
      exact ih.2.2.2.2.2.2.2.2.2.1 x0 x1 (pm_sz (pm_setR h s1 8 (some s0))) x0 (pm_new (pm_setR h s1 8 (some s0)) 34 0) (pr_new (pr_sR K0 Hs1 Hs0)) Hx0 Hx1 (pr_n (pr_sR K0 Hs1 Hs0)) Hx0 hi
    refine ⟨fun x0 x1 s0 s1 h K0 Hx0 Hx1 Hs0 Hs1 hf => ?_, ?_⟩
    · obtain ⟨y, hf, hi⟩ := pm_iter_s hf
      have hf : tX7_init_68 x0 x1 s0 s1 h = some y := hf
      unfold tX7_init_68 at hf
      obtain ⟨k9, hf⟩ := pm_if hf
      cases hf
      exact ih.2.2.2.2.2.2.2.2.2.2.1 x0 x1 (pm_sz (pm_setR h s1 9 (some s0))) x0 (pm_new (pm_setR h s1 9 (some s0)) 34 0) (pr_new (pr_sR K0 Hs1 Hs0)) Hx0 Hx1 (pr_n (pr_sR K0 Hs1 Hs0)) Hx0 hi
    refine ⟨fun x0 x1 s0 s1 h K0 Hx0 Hx1 Hs0 Hs1 hf => ?_, ?_⟩
    · obtain ⟨y, hf, hi⟩ := pm_iter_s hf
      have hf : tX7_init_75 x0 x1 s0 s1 h = some y := hf
      unfold tX7_init_75 at hf
      obtain ⟨k10, hf⟩ := pm_if hf
      cases hf
      exact ih.2.2.2.2.2.2.2.2.2.2.2.1 x0 x1 (pm_sz (pm_setR h s1 10 (some s0))) x0 (pm_new (pm_setR h s1 10 (some s0)) 34 0) (pr_new (pr_sR K0 Hs1 Hs0)) Hx0 Hx1 (pr_n (pr_sR K0 Hs1 Hs0)) Hx0 hi
    refine ⟨fun x0 x1 s0 s1 h K0 Hx0 Hx1 Hs0 Hs1 hf => ?_, ?_⟩
    · obtain ⟨y, hf, hi⟩ := pm_iter_s hf
      have hf : tX7_init_82 x0 x1 s0 s1 h = some y := hf
      unfold tX7_init_82 at hf
      obtain ⟨k11, hf⟩ := pm_if hf
      cases hf
      exact ih.2.2.2.2.2.2.2.2.2.2.2.2.1 x0 x1 (pm_sz (pm_setR h s1 11 (some s0))) x0 (pm_new (pm_setR h s1 11 (some s0)) 38 0) (pr_new (pr_sR K0 Hs1 Hs0)) Hx0 Hx1 (pr_n (pr_sR K0 Hs1 Hs0)) Hx0 hi
    refine ⟨fun x0 x1 s0 s1 h K0 Hx0 Hx1 Hs0 Hs1 hf => ?_, ?_⟩
    · obtain ⟨y, hf, hi⟩ := pm_iter_s hf
      have hf : tX7_init_90 x0 x1 s0 s1 h = some y := hf
      unfold tX7_init_90 at hf
      obtain ⟨k12, hf⟩ := pm_if hf
      obtain ⟨k13, hf⟩ := pm_if hf
      cases hf
      exact ih.2.2.2.2.2.2.2.2.2.2.2.2.2 x0 0 (pm_setR (pm_setL (pm_setL (pm_setR h s1 12 (some s0)) x0 13 (-1)) x0 14 (-1)) x0 0 (some x1)) (pr_sR (pr_sL (pr_sL (pr_sR K0 Hs1 Hs0) Hx0) Hx0) Hx0 Hx1) Hx0 hi
    refine fun x0 x2 h K0 Hx0 hf => ?_
    obtain ⟨y, hf, hi⟩ := pm_iter_s hf
    have hf : tX7_init_114 x0 x2 h = some y := hf
    unfold tX7_init_114 at hf
    obtain ⟨k14, hf⟩ := pm_if hf
    obtain ⟨v15, e16, hf⟩ := pm_bd hf
    obtain ⟨k17, hf⟩ := pm_if hf
    by_cases c18 : (Int32.ofNat (pm_ln h v15)) ≤ x2
    · have hf := pm_it hf c18
      have hf := Option.some.inj hf
      subst hf
      have hi := Option.some.inj (show some _ = some r from hi)
      subst hi
      exact K0
    · have hf := pm_ie hf c18
      obtain ⟨u19, hf⟩ := pm_if hf
      obtain ⟨y20, e21, hf⟩ := pm_lt hf
      cases hf
      exact ih.2.2.2.2.2.2.2.2.2.2.2.2.2 x0 y20 (pm_setI h v15 x2.toNatClampNeg (-1)) (pr_sI K0 (pr_c K0 Hx0 e16)) Hx0 hi
set_option maxHeartbeats 4000000 in
set_option maxRecDepth 100000 in
theorem rgX7_init {A : Nat → Prop} {h0 h : pm_H} (K0 : pr_F A h0 h) {a0 : Nat} {p1 : Nat} (Ha0 : A a0) (Hp1 : A p1) {r : pm_H} (hf : fX7_init h a0 p1 = some r) : pr_F A h0 r := by
  unfold fX7_init at hf
  obtain ⟨n, hn⟩ := pm_lim_iter hf
  exact (rlX7_init n).1 a0 p1 h K0 Ha0 Hp1 hn
set_option maxHeartbeats 4000000 in
set_option maxRecDepth 100000 in
theorem rgX9_makeRoom_b209 {A : Nat → Prop} {h0 h : pm_H} (K0 : pr_F A h0 h) {s0 : Nat} {s1 : Nat} (Hs0 : A s0) (Hs1 : A s1) {r : pm_H} (hf : fX9_makeRoom_b209 h s0 s1 = some r) : pr_F A h0 r := by
  unfold fX9_makeRoom_b209 at hf
  obtain ⟨k96, hf⟩ := pm_if hf
  have hf := Option.some.inj hf
  subst hf
  exact (pr_sR K0 Hs1 Hs0)
set_option maxHeartbeats 4000000 in
set_option maxRecDepth 100000 in
theorem rgX9_makeRoom_b189 {A : Nat → Prop} {h0 h : pm_H} (K0 : pr_F A h0 h) {x0 : Nat} {x1 : Int32} {x4 : Int32} {s0 : Nat} {s1 : Nat} (Hx0 : A x0) (Hs0 : A s0) (Hs1 : A s1) {r : pm_H} (hf : fX9_makeRoom_b189 h x0 x1 x4 s0 s1 = some r) : pr_F A h0 r := by
  unfold fX9_makeRoom_b189 at hf
  obtain ⟨k88, hf⟩ := pm_if hf
  by_cases c89 : x1 = 11
  · have hf := pm_it hf c89
    obtain ⟨k90, hf⟩ := pm_if hf
    obtain ⟨v91, e92, hf⟩ := pm_bd hf
    obtain ⟨y93, e94, hf⟩ := pm_lt hf
    obtain ⟨u95, hf⟩ := pm_if hf
    exact rgX9_makeRoom_b209 (pr_new (pr_sR K0 Hs1 Hs0)) (pr_n (pr_sR K0 Hs1 Hs0)) (pr_c (pr_sR K0 Hs1 Hs0) Hx0 e92) hf
  · have hf := pm_ie hf c89
    have hf := Option.some.inj hf
    subst hf
    exact (pr_sR K0 Hs1 Hs0)
set_option maxHeartbeats 4000000 in
set_option maxRecDepth 100000 in
theorem rgX9_makeRoom_b170 {A : Nat → Prop} {h0 h : pm_H} (K0 : pr_F A h0 h) {x0 : Nat} {x1 : Int32} {x4 : Int32} {s0 : Nat} {s1 : Nat} (Hx0 : A x0) (Hs0 : A s0) (Hs1 : A s1) {r : pm_H} (hf : fX9_makeRoom_b170 h x0 x1 x4 s0 s1 = some r) : pr_F A h0 r := by
  unfold fX9_makeRoom_b170 at hf
  obtain ⟨k73, hf⟩ := pm_if hf
  by_cases c74 : x1 = 10
  · have hf := pm_it hf c74
    obtain ⟨k75, hf⟩ := pm_if hf
    obtain ⟨v76, e77, hf⟩ := pm_bd hf
    obtain ⟨y78, e79, hf⟩ := pm_lt hf
    obtain ⟨u80, hf⟩ := pm_if hf
    exact rgX9_makeRoom_b189 (pr_new (pr_sR K0 Hs1 Hs0)) Hx0 (pr_n (pr_sR K0 Hs1 Hs0)) (pr_c (pr_sR K0 Hs1 Hs0) Hx0 e77) hf
  · have hf := pm_ie hf c74
    by_cases c81 : x1 = 11
    · have hf := pm_it hf c81
      obtain ⟨k82, hf⟩ := pm_if hf
      obtain ⟨v83, e84, hf⟩ := pm_bd hf
      obtain ⟨y85, e86, hf⟩ := pm_lt hf
      obtain ⟨u87, hf⟩ := pm_if hf
      exact rgX9_makeRoom_b209 (pr_new (pr_sR K0 Hs1 Hs0)) (pr_n (pr_sR K0 Hs1 Hs0)) (pr_c (pr_sR K0 Hs1 Hs0) Hx0 e84) hf
    · have hf := pm_ie hf c81
      have hf := Option.some.inj hf
      subst hf
      exact (pr_sR K0 Hs1 Hs0)
set_option maxHeartbeats 4000000 in
set_option maxRecDepth 100000 in
theorem rgX9_makeRoom_b153 {A : Nat → Prop} {h0 h : pm_H} (K0 : pr_F A h0 h) {x0 : Nat} {x1 : Int32} {x4 : Int32} (Hx0 : A x0) {r : pm_H} (hf : fX9_makeRoom_b153 h x0 x1 x4 = some r) : pr_F A h0 r := by
  unfold fX9_makeRoom_b153 at hf
  by_cases c52 : x1 = 9
  · have hf := pm_it hf c52
    obtain ⟨k53, hf⟩ := pm_if hf
    obtain ⟨v54, e55, hf⟩ := pm_bd hf
    obtain ⟨y56, e57, hf⟩ := pm_lt hf
    obtain ⟨u58, hf⟩ := pm_if hf
    exact rgX9_makeRoom_b170 (pr_new K0) Hx0 (pr_n K0) (pr_c K0 Hx0 e55) hf
  · have hf := pm_ie hf c52
    by_cases c59 : x1 = 10
    · have hf := pm_it hf c59
      obtain ⟨k60, hf⟩ := pm_if hf
      obtain ⟨v61, e62, hf⟩ := pm_bd hf
      obtain ⟨y63, e64, hf⟩ := pm_lt hf
      obtain ⟨u65, hf⟩ := pm_if hf
      exact rgX9_makeRoom_b189 (pr_new K0) Hx0 (pr_n K0) (pr_c K0 Hx0 e62) hf
    · have hf := pm_ie hf c59
      by_cases c66 : x1 = 11
      · have hf := pm_it hf c66
        obtain ⟨k67, hf⟩ := pm_if hf
        obtain ⟨v68, e69, hf⟩ := pm_bd hf
        obtain ⟨y70, e71, hf⟩ := pm_lt hf
        obtain ⟨u72, hf⟩ := pm_if hf
        exact rgX9_makeRoom_b209 (pr_new K0) (pr_n K0) (pr_c K0 Hx0 e69) hf
      · have hf := pm_ie hf c66
        have hf := Option.some.inj hf
        subst hf
        exact K0
set_option maxHeartbeats 4000000 in
set_option maxRecDepth 100000 in
theorem rgX9_makeRoom_b150 {A : Nat → Prop} {h0 h : pm_H} (K0 : pr_F A h0 h) {x0 : Nat} {x1 : Int32} {x4 : Int32} {s0 : Nat} {s1 : Nat} (Hx0 : A x0) (Hs0 : A s0) (Hs1 : A s1) {r : pm_H} (hf : fX9_makeRoom_b150 h x0 x1 x4 s0 s1 = some r) : pr_F A h0 r := by
  unfold fX9_makeRoom_b150 at hf
  obtain ⟨k51, hf⟩ := pm_if hf
  exact rgX9_makeRoom_b153 (pr_sR K0 Hs1 Hs0) Hx0 hf
set_option maxHeartbeats 4000000 in
set_option maxRecDepth 100000 in
theorem rgX9_makeRoom_b134 {A : Nat → Prop} {h0 h : pm_H} (K0 : pr_F A h0 h) {x0 : Nat} {x1 : Int32} {x4 : Int32} (Hx0 : A x0) {r : pm_H} (hf : fX9_makeRoom_b134 h x0 x1 x4 = some r) : pr_F A h0 r := by
  unfold fX9_makeRoom_b134 at hf
  by_cases c44 : x1 = 7
  · have hf := pm_it hf c44
    obtain ⟨k45, hf⟩ := pm_if hf
    obtain ⟨v46, e47, hf⟩ := pm_bd hf
    obtain ⟨y48, e49, hf⟩ := pm_lt hf
    obtain ⟨u50, hf⟩ := pm_if hf
    exact rgX9_makeRoom_b150 (pr_new K0) Hx0 (pr_n K0) (pr_c K0 Hx0 e47) hf
  · have hf := pm_ie hf c44
    exact rgX9_makeRoom_b153 K0 Hx0 hf
set_option maxHeartbeats 4000000 in
set_option maxRecDepth 100000 in
theorem rgX9_makeRoom_b131 {A : Nat → Prop} {h0 h : pm_H} (K0 : pr_F A h0 h) {x0 : Nat} {x1 : Int32} {x4 : Int32} {s0 : Nat} {s1 : Nat} (Hx0 : A x0) (Hs0 : A s0) (Hs1 : A s1) {r : pm_H} (hf : fX9_makeRoom_b131 h x0 x1 x4 s0 s1 = some r) : pr_F A h0 r := by
  unfold fX9_makeRoom_b131 at hf
  obtain ⟨k43, hf⟩ := pm_if hf
  exact rgX9_makeRoom_b134 (pr_sR K0 Hs1 Hs0) Hx0 hf
set_option maxHeartbeats 4000000 in
set_option maxRecDepth 100000 in
theorem rgX9_makeRoom_b115 {A : Nat → Prop} {h0 h : pm_H} (K0 : pr_F A h0 h) {x0 : Nat} {x1 : Int32} {x4 : Int32} (Hx0 : A x0) {r : pm_H} (hf : fX9_makeRoom_b115 h x0 x1 x4 = some r) : pr_F A h0 r := by
  unfold fX9_makeRoom_b115 at hf
  by_cases c36 : x1 = 2
  · have hf := pm_it hf c36
    obtain ⟨k37, hf⟩ := pm_if hf
    obtain ⟨v38, e39, hf⟩ := pm_bd hf
    obtain ⟨y40, e41, hf⟩ := pm_lt hf
    obtain ⟨u42, hf⟩ := pm_if hf
    exact rgX9_makeRoom_b131 (pr_new K0) Hx0 (pr_n K0) (pr_c K0 Hx0 e39) hf
  · have hf := pm_ie hf c36
    exact rgX9_makeRoom_b134 K0 Hx0 hf
set_option maxHeartbeats 4000000 in
set_option maxRecDepth 100000 in
theorem rgX9_makeRoom_b112 {A : Nat → Prop} {h0 h : pm_H} (K0 : pr_F A h0 h) {x0 : Nat} {x1 : Int32} {x4 : Int32} {s0 : Nat} {s1 : Nat} (Hx0 : A x0) (Hs0 : A s0) (Hs1 : A s1) {r : pm_H} (hf : fX9_makeRoom_b112 h x0 x1 x4 s0 s1 = some r) : pr_F A h0 r := by
  unfold fX9_makeRoom_b112 at hf
  obtain ⟨k35, hf⟩ := pm_if hf
  exact rgX9_makeRoom_b115 (pr_sR K0 Hs1 Hs0) Hx0 hf
set_option maxHeartbeats 4000000 in
set_option maxRecDepth 100000 in
theorem rgX9_makeRoom_b96 {A : Nat → Prop} {h0 h : pm_H} (K0 : pr_F A h0 h) {x0 : Nat} {x1 : Int32} {x4 : Int32} (Hx0 : A x0) {r : pm_H} (hf : fX9_makeRoom_b96 h x0 x1 x4 = some r) : pr_F A h0 r := by
  unfold fX9_makeRoom_b96 at hf
  by_cases c26 : x1 = 1
  · have hf := pm_it hf c26
    obtain ⟨k27, hf⟩ := pm_if hf
    obtain ⟨v28, e29, hf⟩ := pm_bd hf
    obtain ⟨u30, hf⟩ := pm_if hf
    exact rgX9_makeRoom_b112 (pr_ma K0) Hx0 (pr_n K0) (pr_c K0 Hx0 e29) hf
  · have hf := pm_ie hf c26
    exact rgX9_makeRoom_b115 K0 Hx0 hf
set_option maxHeartbeats 4000000 in
set_option maxRecDepth 100000 in
theorem rgX9_makeRoom_b93 {A : Nat → Prop} {h0 h : pm_H} (K0 : pr_F A h0 h) {x0 : Nat} {x1 : Int32} {x4 : Int32} {s0 : Nat} {s1 : Int32} {s2 : Nat} (Hx0 : A x0) (Hs0 : A s0) (Hs2 : A s2) {r : pm_H} (hf : fX9_makeRoom_b93 h x0 x1 x4 s0 s1 s2 = some r) : pr_F A h0 r := by
  unfold fX9_makeRoom_b93 at hf
  obtain ⟨k31, hf⟩ := pm_if hf
  obtain ⟨v32, e33, hf⟩ := pm_bd hf
  have K34 := rgX7_setSpace K0 Hs2 Hs0 e33
  exact rgX9_makeRoom_b96 K34 Hx0 hf
set_option maxHeartbeats 4000000 in
set_option maxRecDepth 100000 in
theorem rgX9_makeRoom_b17 {A : Nat → Prop} {h0 h : pm_H} (K0 : pr_F A h0 h) {x0 : Nat} {x1 : Int32} {x2 : Int64} (Hx0 : A x0) {r : pm_H} (hf : fX9_makeRoom_b17 h x0 x1 x2 = some r) : pr_F A h0 r := by
  unfold fX9_makeRoom_b17 at hf
  obtain ⟨k6, hf⟩ := pm_if hf
  obtain ⟨y7, e8, hf⟩ := pm_lt hf
  obtain ⟨y9, e10, hf⟩ := pm_lt hf
  obtain ⟨y11, e12, hf⟩ := pm_lt hf
  by_cases c13 : x1 < 3
  · have hf := pm_it hf c13
    exact rgX9_makeRoom_b96 K0 Hx0 hf
  · have hf := pm_ie hf c13
    by_cases c14 : 6 < x1
    · have hf := pm_it hf c14
      exact rgX9_makeRoom_b96 K0 Hx0 hf
    · have hf := pm_ie hf c14
      obtain ⟨v15, e16, hf⟩ := pm_bd hf
      obtain ⟨k17, hf⟩ := pm_if hf
      obtain ⟨v18, e19, hf⟩ := pm_bd hf
      obtain ⟨v20, e21, hf⟩ := pm_bd hf
      have K22 := rgX7_space (pr_sI K0 Hx0) (pr_c K0 Hx0 e16) e21
      obtain ⟨v23, e24, hf⟩ := pm_bd hf
      have K25 := rgJ7_copyOf_c38d5 (pr_sI K0 Hx0) K22 e24
      exact rgX9_makeRoom_b93 K25.1 Hx0 K25.2 (pr_c K0 Hx0 e16) hf
set_option maxHeartbeats 4000000 in
set_option maxRecDepth 100000 in
theorem rgX9_makeRoom_b0 {A : Nat → Prop} {h0 h : pm_H} (K0 : pr_F A h0 h) {x0 : Nat} {x1 : Int32} {x2 : Int64} (Hx0 : A x0) {r : pm_H} (hf : fX9_makeRoom_b0 h x0 x1 x2 = some r) : pr_F A h0 r := by
  unfold fX9_makeRoom_b0 at hf
  obtain ⟨k1, hf⟩ := pm_if hf
  by_cases c2 : x2 ≤ 64
  · have hf := pm_it hf c2
    exact rgX9_makeRoom_b17 (pr_sL K0 Hx0) Hx0 hf
  · have hf := pm_ie hf c2
    obtain ⟨v3, e4, hf⟩ := pm_bd hf
    have K5 := rgX9_exceedLimit (pr_sL K0 Hx0) Hx0 e4
    exact rgX9_makeRoom_b17 K5 Hx0 hf
set_option maxHeartbeats 4000000 in
set_option maxRecDepth 100000 in
theorem rgX9_makeRoom {A : Nat → Prop} {h0 h : pm_H} (K0 : pr_F A h0 h) {a0 : Nat} {p1 : Int32} {p2 : Int64} (Ha0 : A a0) {r : pm_H} (hf : fX9_makeRoom h a0 p1 p2 = some r) : pr_F A h0 r := by
  unfold fX9_makeRoom at hf
  exact rgX9_makeRoom_b0 K0 Ha0 hf
set_option maxHeartbeats 4000000 in
set_option maxRecDepth 100000 in
theorem rgX9_openSection_b212 {A : Nat → Prop} {h0 h : pm_H} (K0 : pr_F A h0 h)   {r : pm_H} (hf : fX9_openSection_b212 h  = some r) : pr_F A h0 r := by
  unfold fX9_openSection_b212 at hf
  have hf := Option.some.inj hf
  subst hf
  exact K0
set_option maxHeartbeats 4000000 in
set_option maxRecDepth 100000 in
theorem rgX9_openSection_b93 {A : Nat → Prop} {h0 h : pm_H} (K0 : pr_F A h0 h) {x0 : Nat} {x1 : Int32} {x2 : Int32} {x4 : Int64} (Hx0 : A x0) {r : pm_H} (hf : fX9_openSection_b93 h x0 x1 x2 x4 = some r) : pr_F A h0 r := by
  unfold fX9_openSection_b93 at hf
  obtain ⟨k36, hf⟩ := pm_if hf
  obtain ⟨y37, e38, hf⟩ := pm_lt hf
  obtain ⟨v39, e40, hf⟩ := pm_bd hf
  obtain ⟨k41, hf⟩ := pm_if hf
  obtain ⟨v42, e43, hf⟩ := pm_bd hf
  obtain ⟨v44, e45, hf⟩ := pm_bd hf
  have K46 := rgX12_setItem (pr_sI (pr_sI (pr_sI K0 Hx0) Hx0) Hx0) (pr_c (pr_sI (pr_sI (pr_sI K0 Hx0) Hx0) Hx0) (pr_c (pr_sI (pr_sI (pr_sI K0 Hx0) Hx0) Hx0) Hx0 e40) e43) e45
  obtain ⟨k47, hf⟩ := pm_if hf
  by_cases c48 : x2 = 0
  · have hf := pm_it hf c48
    obtain ⟨v49, e50, hf⟩ := pm_bd hf
    have K51 := rgX9_name (pr_sL (pr_sI K46 Hx0) Hx0) Hx0 e50
    obtain ⟨k52, hf⟩ := pm_if hf
    obtain ⟨v53, e54, hf⟩ := pm_bd hf
    have K55 := rgX9_skip K51 Hx0 e54
    have hf := Option.some.inj hf
    subst hf
    exact K55
  · have hf := pm_ie hf c48
    obtain ⟨v56, e57, hf⟩ := pm_bd hf
    have K58 := rgX9_number (pr_sL (pr_sI K46 Hx0) Hx0) Hx0 e57
    by_cases c59 : x2 = 8
    · have hf := pm_it hf c59
      obtain ⟨k60, hf⟩ := pm_if hf
      obtain ⟨v61, e62, hf⟩ := pm_bd hf
      obtain ⟨k63, hf⟩ := pm_if hf
      exact rgX9_openSection_b212 (pr_sL K58 (pr_c K58 Hx0 e62))  hf
    · have hf := pm_ie hf c59
      by_cases c64 : x2 = 12
      · have hf := pm_it hf c64
        obtain ⟨k65, hf⟩ := pm_if hf
        obtain ⟨v66, e67, hf⟩ := pm_bd hf
        obtain ⟨k68, hf⟩ := pm_if hf
        exact rgX9_openSection_b212 (pr_sL K58 (pr_c K58 Hx0 e67))  hf
      · have hf := pm_ie hf c64
        obtain ⟨k69, hf⟩ := pm_if hf
        obtain ⟨v70, e71, hf⟩ := pm_bd hf
        have K72 := rgX9_makeRoom K58 Hx0 e71
        exact rgX9_openSection_b212 K72  hf
set_option maxHeartbeats 4000000 in
set_option maxRecDepth 100000 in
theorem rgX9_openSection_b73 {A : Nat → Prop} {h0 h : pm_H} (K0 : pr_F A h0 h) {x0 : Nat} {x1 : Int32} {x2 : Int32} {x4 : Int64} (Hx0 : A x0) {r : pm_H} (hf : fX9_openSection_b73 h x0 x1 x2 x4 = some r) : pr_F A h0 r := by
  unfold fX9_openSection_b73 at hf
  obtain ⟨k31, hf⟩ := pm_if hf
  by_cases c32 : (pm_I h x0 3) = 0
  · have hf := pm_it hf c32
    by_cases c33 : x2 ≤ 0
    · have hf := pm_it hf c33
      exact rgX9_openSection_b93 K0 Hx0 hf
    · have hf := pm_ie hf c33
      obtain ⟨v34, e35, hf⟩ := pm_lt hf
      exact rgX9_openSection_b93 (pr_sI K0 Hx0) Hx0 hf
  · have hf := pm_ie hf c32
    have hf := Option.some.inj hf
    subst hf
    exact K0
set_option maxHeartbeats 4000000 in
set_option maxRecDepth 100000 in
theorem rgX9_openSection_b38 {A : Nat → Prop} {h0 h : pm_H} (K0 : pr_F A h0 h) {x0 : Nat} {x1 : Int32} {x2 : Int32} (Hx0 : A x0) {r : pm_H} (hf : fX9_openSection_b38 h x0 x1 x2 = some r) : pr_F A h0 r := by
  unfold fX9_openSection_b38 at hf
  obtain ⟨k20, hf⟩ := pm_if hf
  obtain ⟨y21, e22, hf⟩ := pm_lt hf
  obtain ⟨v23, e24, hf⟩ := pm_bd hf
  have K25 := rgX9_number K0 Hx0 e24
  obtain ⟨k26, hf⟩ := pm_if hf
  by_cases c27 : v23.1 ≤ (((pm_I v23.2 x0 2) - (pm_I v23.2 x0 1)).toInt64)
  · have hf := pm_it hf c27
    exact rgX9_openSection_b73 K25 Hx0 hf
  · have hf := pm_ie hf c27
    obtain ⟨v28, e29, hf⟩ := pm_bd hf
    have K30 := rgX9_fail K25 Hx0 e29
    exact rgX9_openSection_b73 K30 Hx0 hf
set_option maxHeartbeats 4000000 in
set_option maxRecDepth 100000 in
theorem rgX9_openSection_b0 {A : Nat → Prop} {h0 h : pm_H} (K0 : pr_F A h0 h) {x0 : Nat} (Hx0 : A x0) {r : pm_H} (hf : fX9_openSection_b0 h x0 = some r) : pr_F A h0 r := by
  unfold fX9_openSection_b0 at hf
  obtain ⟨k1, hf⟩ := pm_if hf
  obtain ⟨y2, e3, hf⟩ := pm_lt hf
  obtain ⟨v4, e5, hf⟩ := pm_bd hf
  have K6 := rgX9_next K0 Hx0 e5
  by_cases c7 : 12 < v4.1
  · have hf := pm_it hf c7
    obtain ⟨k8, hf⟩ := pm_if hf
    obtain ⟨v9, e10, hf⟩ := pm_bd hf
    have K11 := rgX9_fail K6 Hx0 e10
    exact rgX9_openSection_b38 K11 Hx0 hf
  · have hf := pm_ie hf c7
    by_cases c12 : v4.1 ≤ 0
    · have hf := pm_it hf c12
      exact rgX9_openSection_b38 K6 Hx0 hf
    · have hf := pm_ie hf c12
      obtain ⟨v13, e14, hf⟩ := pm_lt hf
      obtain ⟨k15, hf⟩ := pm_if hf
      by_cases c16 : (pm_I v4.2 x0 12) < v13
      · have hf := pm_it hf c16
        exact rgX9_openSection_b38 K6 Hx0 hf
      · have hf := pm_ie hf c16
        obtain ⟨v17, e18, hf⟩ := pm_bd hf
        have K19 := rgX9_fail K6 Hx0 e18
        exact rgX9_openSection_b38 K19 Hx0 hf
set_option maxHeartbeats 4000000 in
set_option maxRecDepth 100000 in
theorem rgX9_openSection {A : Nat → Prop} {h0 h : pm_H} (K0 : pr_F A h0 h) {a0 : Nat} (Ha0 : A a0) {r : pm_H} (hf : fX9_openSection h a0 = some r) : pr_F A h0 r := by
  unfold fX9_openSection at hf
  exact rgX9_openSection_b0 K0 Ha0 hf
set_option maxHeartbeats 4000000 in
set_option maxRecDepth 100000 in
theorem rlX10_create {A : Nat → Prop} {h0 : pm_H} {r : (Nat × pm_H)} : ∀ n : Nat, (∀ (x0 : Nat) (x1 : Nat) (x2 : Nat) (x3 : Int32) (h : pm_H), pr_F A h0 h → A x0 → A x1 → A x2 → pm_iter sX10_create n (.inl (x0, x1, x2, x3, h)) = some r → pr_F A h0 r.2 ∧ A r.1) ∧ (∀ (x0 : Nat) (x1 : Nat) (x2 : Nat) (x3 : Int32) (s0 : Nat) (h : pm_H), pr_F A h0 h → A x0 → A x1 → A x2 → A s0 → pm_iter sX10_create n (.inr (.inl (x0, x1, x2, x3, s0, h))) = some r → pr_F A h0 r.2 ∧ A r.1) ∧ (∀ (x0 : Nat) (x1 : Nat) (x2 : Nat) (x3 : Int32) (s0 : Nat) (h : pm_H), pr_F A h0 h → A x0 → A x1 → A x2 → A s0 → pm_iter sX10_create n (.inr (.inr (.inl (x0, x1, x2, x3, s0, h)))) = some r → pr_F A h0 r.2 ∧ A r.1) ∧ (∀ (x0 : Nat) (x1 : Nat) (x2 : Nat) (x3 : Int32) (x4 : Nat) (s0 : Nat) (h : pm_H), pr_F A h0 h → A x0 → A x1 → A x2 → A x4 → A s0 → pm_iter sX10_create n (.inr (.inr (.inr (.inl (x0, x1, x2, x3, x4, s0, h))))) = some r → pr_F A h0 r.2 ∧ A r.1) ∧ (∀ (x0 : Nat) (x1 : Nat) (x2 : Nat) (x3 : Int32) (x4 : Nat) (x5 : Nat) (x6 : Int32) (h : pm_H), pr_F A h0 h → A x0 → A x1 → A x2 → A x4 → A x5 → pm_iter sX10_create n (.inr (.inr (.inr (.inr (.inl (x0, x1, x2, x3, x4, x5, x6, h)))))) = some r → pr_F A h0 r.2 ∧ A r.1) ∧ (∀ (x0 : Nat) (x1 : Nat) (x4 : Nat) (x5 : Nat) (x6 : Int32) (h : pm_H), pr_F A h0 h → A x0 → A x1 → A x4 → A x5 → pm_iter sX10_create n (.inr (.inr (.inr (.inr (.inr (.inl (x0, x1, x4, x5, x6, h))))))) = some r → pr_F A h0 r.2 ∧ A r.1) ∧ (∀ (x0 : Nat) (x1 : Nat) (x2 : Nat) (x3 : Int32) (x4 : Nat) (x5 : Nat) (x6 : Int32) (x7 : Int32) (x8 : Int32) (x9 : Int32) (s0 : Nat) (s1 : Nat) (s2 : Nat) (h : pm_H), pr_F A h0 h → A x0 → A x1 → A x2 → A x4 → A x5 → A s0 → A s1 → A s2 → pm_iter sX10_create n (.inr (.inr (.inr (.inr (.inr (.inr (.inl (x0, x1, x2, x3, x4, x5, x6, x7, x8, x9, s0, s1, s2, h)))))))) = some r → pr_F A h0 r.2 ∧ A r.1) ∧ (∀ (x0 : Nat) (x1 : Nat) (x4 : Nat) (x5 : Nat) (x6 : Int32) (h : pm_H), pr_F A h0 h → A x0 → A x1 → A x4 → A x5 → pm_iter sX10_create n (.inr (.inr (.inr (.inr (.inr (.inr (.inr (.inl (x0, x1, x4, x5, x6, h))))))))) = some r → pr_F A h0 r.2 ∧ A r.1) ∧ (∀ (x0 : Nat) (x1 : Nat) (x2 : Nat) (x3 : Int32) (x4 : Nat) (x5 : Nat) (x6 : Int32) (x7 : Int32) (x9 : Int32) (s0 : Nat) (s1 : Nat) (s2 : Nat) (s3 : Nat) (s4 : Nat) (h : pm_H), pr_F A h0 h → A x0 → A x1 → A x2 → A x4 → A x5 → A s0 → A s1 → A s2 → A s3 → A s4 → pm_iter sX10_create n (.inr (.inr (.inr (.inr (.inr (.inr (.inr (.inr (.inl (x0, x1, x2, x3, x4, x5, x6, x7, x9, s0, s1, s2, s3, s4, h)))))))))) = some r → pr_F A h0 r.2 ∧ A r.1) ∧ (∀ (x0 : Nat) (x1 : Nat) (x4 : Nat) (x5 : Nat) (x6 : Int32) (h : pm_H), pr_F A h0 h → A x0 → A x1 → A x4 → A x5 → pm_iter sX10_create n (.inr (.inr (.inr (.inr (.inr (.inr (.inr (.inr (.inr (.inl (x0, x1, x4, x5, x6, h))))))))))) = some r → pr_F A h0 r.2 ∧ A r.1) ∧ (∀ (x0 : Nat) (x1 : Nat) (x4 : Nat) (x5 : Nat) (x6 : Int32) (s0 : Int32) (s1 : Int32) (s2 : Nat) (h : pm_H), pr_F A h0 h → A x0 → A x1 → A x4 → A x5 → A s2 → pm_iter sX10_create n (.inr (.inr (.inr (.inr (.inr (.inr (.inr (.inr (.inr (.inr (.inl (x0, x1, x4, x5, x6, s0, s1, s2, h)))))))))))) = some r → pr_F A h0 r.2 ∧ A r.1) ∧ (∀ (x0 : Nat) (x1 : Nat) (x2 : Nat) (x3 : Int32) (x4 : Nat) (x5 : Nat) (x6 : Int32) (x7 : Int32) (x9 : Int32) (s0 : Nat) (s1 : Nat) (s2 : Nat) (h : pm_H), pr_F A h0 h → A x0 → A x1 → A x2 → A x4 → A x5 → A s0 → A s1 → A s2 → pm_iter sX10_create n (.inr (.inr (.inr (.inr (.inr (.inr (.inr (.inr (.inr (.inr (.inr (.inl (x0, x1, x2, x3, x4, x5, x6, x7, x9, s0, s1, s2, h))))))))))))) = some r → pr_F A h0 r.2 ∧ A r.1) ∧ (∀ (x0 : Nat) (x1 : Nat) (x4 : Nat) (x6 : Int32) (h : pm_H), pr_F A h0 h → A x0 → A x1 → A x4 → pm_iter sX10_create n (.inr (.inr (.inr (.inr (.inr (.inr (.inr (.inr (.inr (.inr (.inr (.inr (.inl (x0, x1, x4, x6, h)))))))))))))) = some r → pr_F A h0 r.2 ∧ A r.1) ∧ (∀ (x0 : Nat) (x1 : Nat) (x4 : Nat) (x5 : Nat) (x6 : Int32) (s0 : Int32) (s1 : Int32) (s2 : Nat) (h : pm_H), pr_F A h0 h → A x0 → A x1 → A x4 → A x5 → A s2 → pm_iter sX10_create n (.inr (.inr (.inr (.inr (.inr (.inr (.inr (.inr (.inr (.inr (.inr (.inr (.inr (.inl (x0, x1, x4, x5, x6, s0, s1, s2, h))))))))))))))) = some r → pr_F A h0 r.2 ∧ A r.1) ∧ (∀ (x0 : Nat) (x1 : Nat) (x4 : Nat) (x6 : Int32) (h : pm_H), pr_F A h0 h → A x0 → A x1 → A x4 → pm_iter sX10_create n (.inr (.inr (.inr (.inr (.inr (.inr (.inr (.inr (.inr (.inr (.inr (.inr (.inr (.inr (.inl (x0, x1, x4, x6, h)))))))))))))))) = some r → pr_F A h0 r.2 ∧ A r.1) ∧ (∀ (x1 : Nat) (x4 : Nat) (x6 : Int32) (h : pm_H), pr_F A h0 h → A x1 → A x4 → pm_iter sX10_create n (.inr (.inr (.inr (.inr (.inr (.inr (.inr (.inr (.inr (.inr (.inr (.inr (.inr (.inr (.inr (.inl (x1, x4, x6, h))))))))))))))))) = some r → pr_F A h0 r.2 ∧ A r.1) ∧ (∀ (x0 : Nat) (x1 : Nat) (x4 : Nat) (x6 : Int32) (h : pm_H), pr_F A h0 h → A x0 → A x1 → A x4 → pm_iter sX10_create n (.inr (.inr (.inr (.inr (.inr (.inr (.inr (.inr (.inr (.inr (.inr (.inr (.inr (.inr (.inr (.inr (x0, x1, x4, x6, h))))))))))))))))) = some r → pr_F A h0 r.2 ∧ A r.1) := by
  intro n
  induction n with
  | zero => exact ⟨fun _ _ _ _ _ _ _ _ _ hf => (by cases hf), fun _ _ _ _ _ _ _ _ _ _ _ hf => (by cases hf), fun _ _ _ _ _ _ _ _ _ _ _ hf => (by cases hf), fun _ _ _ _ _ _ _ _ _ _ _ _ _ hf => (by cases hf), fun _ _ _ _ _ _ _ _ _ _ _ _ _ _ hf => (by cases hf), fun _ _ _ _ _ _ _ _ _ _ _ hf => (by cases hf), fun _ _ _ _ _ _ _ _ _ _ _ _ _ _ _ _ _ _ _ _ _ _ _ hf => (by cases hf), fun _ _ _ _ _ _ _ _ _ _ _ hf => (by cases hf), fun _ _ _ _ _ _ _ _ _ _ _ _ _ _ _ _ _ _ _ _ _ _ _ _ _ _ hf => (by cases hf), fun _ _ _ _ _ _ _ _ _ _ _ hf => (by cases hf), fun _ _ _ _ _ _ _ _ _ _ _ _ _ _ _ hf => (by cases hf), fun _ _ _ _ _ _ _ _ _ _ _ _ _ _ _ _ _ _ _ _ _ _ hf => (by cases hf), fun _ _ _ _ _ _ _ _ _ hf => (by cases hf), fun _ _ _ _ _ _ _ _ _ _ _ _ _ _ _ hf => (by cases hf), fun _ _ _ _ _ _ _ _ _ hf => (by cases hf), fun _ _ _ _ _ _ _ hf => (by cases hf), fun _ _ _ _ _ _ _ _ _ hf => (by cases hf)⟩
  | succ n ih =>
    refine ⟨fun x0 x1 x2 x3 h K0 Hx0 Hx1 Hx2 hf => ?_, ?_⟩
    · obtain ⟨y, hf, hi⟩ := pm_iter_s hf
      have hf : tX10_create_0 x0 x1 x2 x3 h = some y := hf
      unfold tX10_create_0 at hf
      cases hf
      exact ih.2.1 x0 x1 x2 x3 (pm_sz h) (pm_new h 4 0) (pr_new K0) Hx0 Hx1 Hx2 (pr_n K0) hi
    refine ⟨fun x0 x1 x2 x3 s0 h K0 Hx0 Hx1 Hx2 Hs0 hf => ?_, ?_⟩
    · obtain ⟨y, hf, hi⟩ := pm_iter_s hf
      have hf : tX10_create_3 x0 x1 x2 x3 s0 h = some y := hf
      unfold tX10_create_3 at hf
      obtain ⟨v1, e2, hf⟩ := pm_bd hf
      have K3 := rgX4_init K0 Hs0 Hx1 e2
      cases hf
      exact ih.2.2.1 x0 x1 x2 x3 s0 v1 K3 Hx0 Hx1 Hx2 Hs0 hi
    refine ⟨fun x0 x1 x2 x3 s0 h K0 Hx0 Hx1 Hx2 Hs0 hf => ?_, ?_⟩
    · obtain ⟨y, hf, hi⟩ := pm_iter_s hf
      have hf : tX10_create_8 x0 x1 x2 x3 s0 h = some y := hf
      unfold tX10_create_8 at hf
      obtain ⟨k4, hf⟩ := pm_if hf
      obtain ⟨v5, e6, hf⟩ := pm_bd hf
      obtain ⟨k7, hf⟩ := pm_if hf
      by_cases c8 : (Int32.ofNat (pm_ln h v5)) ≤ (pm_I h x0 3)
      · have hf := pm_it hf c8
        obtain ⟨y9, e10, hf⟩ := pm_lt hf
        cases hf
        exact ih.2.2.2.1 x0 x1 x2 x3 s0 (pm_sz (pm_setI h x0 3 y9)) (pm_new (pm_setI h x0 3 y9) 34 4) (pr_new (pr_sI K0 Hx0)) Hx0 Hx1 Hx2 Hs0 (pr_n (pr_sI K0 Hx0)) hi
      · have hf := pm_ie hf c8
        obtain ⟨k11, hf⟩ := pm_if hf
        obtain ⟨u12, hf⟩ := pm_if hf
        obtain ⟨y13, e14, hf⟩ := pm_lt hf
        cases hf
        exact ih.2.2.2.1 x0 x1 x2 x3 s0 (pm_sz (pm_setI (pm_setR h v5 ((pm_I h x0 3).toNatClampNeg) (some s0)) x0 3 y13)) (pm_new (pm_setI (pm_setR h v5 ((pm_I h x0 3).toNatClampNeg) (some s0)) x0 3 y13) 34 4) (pr_new (pr_sI (pr_sR K0 (pr_c K0 Hx0 e6) Hs0) Hx0)) Hx0 Hx1 Hx2 Hs0 (pr_n (pr_sI (pr_sR K0 (pr_c K0 Hx0 e6) Hs0) Hx0)) hi
    refine ⟨fun x0 x1 x2 x3 x4 s0 h K0 Hx0 Hx1 Hx2 Hx4 Hs0 hf => ?_, ?_⟩
    · obtain ⟨y, hf, hi⟩ := pm_iter_s hf
      have hf : tX10_create_46 x0 x1 x2 x3 x4 s0 h = some y := hf
      unfold tX10_create_46 at hf
      cases hf
      exact ih.2.2.2.2.1 x0 x1 x2 x3 x4 s0 0 h K0 Hx0 Hx1 Hx2 Hx4 Hs0 hi
    refine ⟨fun x0 x1 x2 x3 x4 x5 x6 h K0 Hx0 Hx1 Hx2 Hx4 Hx5 hf => ?_, ?_⟩
    · obtain ⟨y, hf, hi⟩ := pm_iter_s hf
      have hf : tX10_create_51 x0 x1 x2 x3 x4 x5 x6 h = some y := hf
      unfold tX10_create_51 at hf
      by_cases c15 : x3 ≤ x6
      · have hf := pm_it hf c15
        cases hf
        exact ih.2.2.2.2.2.1 x0 x1 x4 x5 0 h K0 Hx0 Hx1 Hx4 Hx5 hi
      · have hf := pm_ie hf c15
        obtain ⟨k16, hf⟩ := pm_if hf
        obtain ⟨v17, e18, hf⟩ := pm_bd hf
        obtain ⟨v19, e20, hf⟩ := pm_bd hf
        obtain ⟨v21, e22, hf⟩ := pm_bd hf
        obtain ⟨v23, e24, hf⟩ := pm_bd hf
        obtain ⟨v25, e26, hf⟩ := pm_bd hf
        by_cases c27 : v25 = (-1)
        · have hf := pm_it hf c27
          obtain ⟨k28, hf⟩ := pm_if hf
          obtain ⟨v29, e30, hf⟩ := pm_bd hf
          cases hf
          exact ih.2.2.2.2.2.2.1 x0 x1 x2 x3 x4 x5 x6 v19.toInt32 v21.toInt32 v23 (pm_sz h) v29 x0 (pm_new h 0 0) (pr_new K0) Hx0 Hx1 Hx2 Hx4 Hx5 (pr_n K0) (pr_c K0 Hx0 e30) Hx0 hi
        · have hf := pm_ie hf c27
          obtain ⟨k31, hf⟩ := pm_if hf
          obtain ⟨v32, e33, hf⟩ := pm_bd hf
          have K34 := rgX4_numbers K0 Hx4 e33
          obtain ⟨v35, e36, hf⟩ := pm_bd hf
          obtain ⟨v37, e38, hf⟩ := pm_bd hf
          have K39 := rgX12_setItem K0 K34 e38
          obtain ⟨v40, e41, hf⟩ := pm_bd hf
          obtain ⟨v42, e43, hf⟩ := pm_bd hf
          have K44 := rgX12_setItem K39 Hx5 e43
          obtain ⟨y45, e46, hf⟩ := pm_lt hf
          cases hf
          exact ih.2.2.2.2.1 x0 x1 x2 x3 x4 x5 y45 v42 K44 Hx0 Hx1 Hx2 Hx4 Hx5 hi
    refine ⟨fun x0 x1 x4 x5 x6 h K0 Hx0 Hx1 Hx4 Hx5 hf => ?_, ?_⟩
    · obtain ⟨y, hf, hi⟩ := pm_iter_s hf
      have hf : tX10_create_185 x0 x1 x4 x5 x6 h = some y := hf
      unfold tX10_create_185 at hf
      obtain ⟨k47, hf⟩ := pm_if hf
      obtain ⟨v48, e49, hf⟩ := pm_bd hf
      obtain ⟨k50, hf⟩ := pm_if hf
      by_cases c51 : (Int32.ofNat (pm_ln h v48)) ≤ x6
      · have hf := pm_it hf c51
        obtain ⟨k52, hf⟩ := pm_if hf
        obtain ⟨u53, hf⟩ := pm_if hf
        obtain ⟨y54, e55, hf⟩ := pm_lt hf
        cases hf
        exact ih.2.2.2.2.2.2.2.1 x0 x1 x4 x5 y54 h K0 Hx0 Hx1 Hx4 Hx5 hi
      · have hf := pm_ie hf c51
        obtain ⟨k56, hf⟩ := pm_if hf
        obtain ⟨v57, e58, hf⟩ := pm_bd hf
        obtain ⟨k59, hf⟩ := pm_if hf
        obtain ⟨u60, hf⟩ := pm_if hf
        obtain ⟨u61, hf⟩ := pm_if hf
        obtain ⟨v62, e63, hf⟩ := pm_bd hf
        obtain ⟨k64, hf⟩ := pm_if hf
        obtain ⟨v65, e66, hf⟩ := pm_bd hf
        have K67 := rgX10_addFunction K0 Hx0 Hx4 (pr_c K0 (pr_c K0 Hx1 e49) e63) e66
        obtain ⟨v68, e69, hf⟩ := pm_bd hf
        have K70 := rgX12_setItem K67 (pr_c K0 Hx4 e58) e69
        obtain ⟨y71, e72, hf⟩ := pm_lt hf
        cases hf
        exact ih.2.2.2.2.2.1 x0 x1 x4 x5 y71 v68 K70 Hx0 Hx1 Hx4 Hx5 hi
    refine ⟨fun x0 x1 x2 x3 x4 x5 x6 x7 x8 x9 s0 s1 s2 h K0 Hx0 Hx1 Hx2 Hx4 Hx5 Hs0 Hs1 Hs2 hf => ?_, ?_⟩
    · obtain ⟨y, hf, hi⟩ := pm_iter_s hf
      have hf : tX10_create_123 x0 x1 x2 x3 x4 x5 x6 x7 x8 x9 s0 s1 s2 h = some y := hf
      unfold tX10_create_123 at hf
      obtain ⟨k73, hf⟩ := pm_if hf
      obtain ⟨v74, e75, hf⟩ := pm_bd hf
      have K76 := rgX7_shape K0 Hx1 e75
      cases hf
      exact ih.2.2.2.2.2.2.2.2.1 x0 x1 x2 x3 x4 x5 x6 x7 x9 v74.1 s0 s0 s1 s2 v74.2 K76.1 Hx0 Hx1 Hx2 Hx4 Hx5 K76.2 Hs0 Hs0 Hs1 Hs2 hi
    refine ⟨fun x0 x1 x4 x5 x6 h K0 Hx0 Hx1 Hx4 Hx5 hf => ?_, ?_⟩
    · obtain ⟨y, hf, hi⟩ := pm_iter_s hf
      have hf : tX10_create_236 x0 x1 x4 x5 x6 h = some y := hf
      unfold tX10_create_236 at hf
      obtain ⟨k77, hf⟩ := pm_if hf
      obtain ⟨v78, e79, hf⟩ := pm_bd hf
      obtain ⟨k80, hf⟩ := pm_if hf
      by_cases c81 : (Int32.ofNat (pm_ln h v78)) ≤ x6
      · have hf := pm_it hf c81
        obtain ⟨k82, hf⟩ := pm_if hf
        obtain ⟨u83, hf⟩ := pm_if hf
        obtain ⟨y84, e85, hf⟩ := pm_lt hf
        cases hf
        exact ih.2.2.2.2.2.2.2.2.2.1 x0 x1 x4 x5 y84 h K0 Hx0 Hx1 Hx4 Hx5 hi
      · have hf := pm_ie hf c81
        obtain ⟨k86, hf⟩ := pm_if hf
        obtain ⟨v87, e88, hf⟩ := pm_bd hf
        obtain ⟨k89, hf⟩ := pm_if hf
        obtain ⟨v90, e91, hf⟩ := pm_bd hf
        obtain ⟨v92, e93, hf⟩ := pm_bd hf
        obtain ⟨v94, e95, hf⟩ := pm_bd hf
        obtain ⟨k96, hf⟩ := pm_if hf
        obtain ⟨v97, e98, hf⟩ := pm_bd hf
        have K99 := rgX11_create K0 (pr_c K0 Hx0 e91) e98
        cases hf
        exact ih.2.2.2.2.2.2.2.2.2.2.1 x0 x1 x4 x5 x6 v97.1 x6 v78 v97.2 K99 Hx0 Hx1 Hx4 Hx5 (pr_c K0 Hx4 e79) hi
    refine ⟨fun x0 x1 x2 x3 x4 x5 x6 x7 x9 s0 s1 s2 s3 s4 h K0 Hx0 Hx1 Hx2 Hx4 Hx5 Hs0 Hs1 Hs2 Hs3 Hs4 hf => ?_, ?_⟩
    · obtain ⟨y, hf, hi⟩ := pm_iter_s hf
      have hf : tX10_create_130 x0 x1 x2 x3 x4 x5 x6 x7 x9 s0 s1 s2 s3 s4 h = some y := hf
      unfold tX10_create_130 at hf
      obtain ⟨v100, e101, hf⟩ := pm_bd hf
      have K102 := rgX0_init K0 Hs1 Hs0 e101
      cases hf
      exact ih.2.2.2.2.2.2.2.2.2.2.2.1 x0 x1 x2 x3 x4 x5 x6 x7 x9 s2 s3 s4 v100 K102 Hx0 Hx1 Hx2 Hx4 Hx5 Hs2 Hs3 Hs4 hi
    refine ⟨fun x0 x1 x4 x5 x6 h K0 Hx0 Hx1 Hx4 Hx5 hf => ?_, ?_⟩
    · obtain ⟨y, hf, hi⟩ := pm_iter_s hf
      have hf : tX10_create_303 x0 x1 x4 x5 x6 h = some y := hf
      unfold tX10_create_303 at hf
      obtain ⟨k103, hf⟩ := pm_if hf
      obtain ⟨v104, e105, hf⟩ := pm_bd hf
      obtain ⟨k106, hf⟩ := pm_if hf
      by_cases c107 : (Int32.ofNat (pm_ln h v104)) ≤ x6
      · have hf := pm_it hf c107
        obtain ⟨k108, hf⟩ := pm_if hf
        obtain ⟨u109, hf⟩ := pm_if hf
        obtain ⟨y110, e111, hf⟩ := pm_lt hf
        cases hf
        exact ih.2.2.2.2.2.2.2.2.2.2.2.2.1 x0 x1 x4 y110 h K0 Hx0 Hx1 Hx4 hi
      · have hf := pm_ie hf c107
        obtain ⟨k112, hf⟩ := pm_if hf
        obtain ⟨v113, e114, hf⟩ := pm_bd hf
        obtain ⟨k115, hf⟩ := pm_if hf
        obtain ⟨v116, e117, hf⟩ := pm_bd hf
        obtain ⟨v118, e119, hf⟩ := pm_bd hf
        obtain ⟨k120, hf⟩ := pm_if hf
        obtain ⟨v121, e122, hf⟩ := pm_bd hf
        have K123 := rgX6_create K0 (pr_c K0 Hx0 e114) e122
        cases hf
        exact ih.2.2.2.2.2.2.2.2.2.2.2.2.2.1 x0 x1 x4 x5 x6 v121.1 x6 v104 v121.2 K123 Hx0 Hx1 Hx4 Hx5 (pr_c K0 Hx4 e105) hi
    refine ⟨fun x0 x1 x4 x5 x6 s0 s1 s2 h K0 Hx0 Hx1 Hx4 Hx5 Hs2 hf => ?_, ?_⟩
    · obtain ⟨y, hf, hi⟩ := pm_iter_s hf
      have hf : tX10_create_290 x0 x1 x4 x5 x6 s0 s1 s2 h = some y := hf
      unfold tX10_create_290 at hf
      obtain ⟨k124, hf⟩ := pm_if hf
      obtain ⟨u125, hf⟩ := pm_if hf
      obtain ⟨y126, e127, hf⟩ := pm_lt hf
      cases hf
      exact ih.2.2.2.2.2.2.2.1 x0 x1 x4 x5 y126 (pm_setI h s2 s1.toNatClampNeg s0) (pr_sI K0 Hs2) Hx0 Hx1 Hx4 Hx5 hi
    refine ⟨fun x0 x1 x2 x3 x4 x5 x6 x7 x9 s0 s1 s2 h K0 Hx0 Hx1 Hx2 Hx4 Hx5 Hs0 Hs1 Hs2 hf => ?_, ?_⟩
    · obtain ⟨y, hf, hi⟩ := pm_iter_s hf
      have hf : tX10_create_134 x0 x1 x2 x3 x4 x5 x6 x7 x9 s0 s1 s2 h = some y := hf
      unfold tX10_create_134 at hf
      obtain ⟨k128, hf⟩ := pm_if hf
      obtain ⟨v129, e130, hf⟩ := pm_bd hf
      have K131 := rgX10_addFunction K0 Hs2 Hs1 Hs0 e130
      obtain ⟨k132, hf⟩ := pm_if hf
      obtain ⟨v133, e134, hf⟩ := pm_bd hf
      have K135 := rgX4_numbers K131 Hx4 e134
      obtain ⟨v136, e137, hf⟩ := pm_bd hf
      obtain ⟨v138, e139, hf⟩ := pm_bd hf
      have K140 := rgX12_setItem K131 K135 e139
      obtain ⟨v141, e142, hf⟩ := pm_bd hf
      obtain ⟨v143, e144, hf⟩ := pm_bd hf
      have K145 := rgX12_setItem K140 Hx5 e144
      obtain ⟨y146, e147, hf⟩ := pm_lt hf
      cases hf
      exact ih.2.2.2.2.1 x0 x1 x2 x3 x4 x5 y146 v143 K145 Hx0 Hx1 Hx2 Hx4 Hx5 hi
    refine ⟨fun x0 x1 x4 x6 h K0 Hx0 Hx1 Hx4 hf => ?_, ?_⟩
    · obtain ⟨y, hf, hi⟩ := pm_iter_s hf
      have hf : tX10_create_357 x0 x1 x4 x6 h = some y := hf
      unfold tX10_create_357 at hf
      obtain ⟨k148, hf⟩ := pm_if hf
      obtain ⟨v149, e150, hf⟩ := pm_bd hf
      obtain ⟨k151, hf⟩ := pm_if hf
      by_cases c152 : (Int32.ofNat (pm_ln h v149)) ≤ x6
      · have hf := pm_it hf c152
        cases hf
        exact ih.2.2.2.2.2.2.2.2.2.2.2.2.2.2.1 x0 x1 x4 0 h K0 Hx0 Hx1 Hx4 hi
      · have hf := pm_ie hf c152
        obtain ⟨k153, hf⟩ := pm_if hf
        obtain ⟨v154, e155, hf⟩ := pm_bd hf
        have K156 := rgX10_addGlobal K0 Hx0 Hx4 e155
        obtain ⟨k157, hf⟩ := pm_if hf
        obtain ⟨u158, hf⟩ := pm_if hf
        obtain ⟨y159, e160, hf⟩ := pm_lt hf
        cases hf
        exact ih.2.2.2.2.2.2.2.2.2.2.2.2.1 x0 x1 x4 y159 (pm_setI v154.2 v149 x6.toNatClampNeg v154.1) (pr_sI K156 (pr_c K0 Hx4 e150)) Hx0 Hx1 Hx4 hi
    refine ⟨fun x0 x1 x4 x5 x6 s0 s1 s2 h K0 Hx0 Hx1 Hx4 Hx5 Hs2 hf => ?_, ?_⟩
    · obtain ⟨y, hf, hi⟩ := pm_iter_s hf
      have hf : tX10_create_344 x0 x1 x4 x5 x6 s0 s1 s2 h = some y := hf
      unfold tX10_create_344 at hf
      obtain ⟨k161, hf⟩ := pm_if hf
      obtain ⟨u162, hf⟩ := pm_if hf
      obtain ⟨y163, e164, hf⟩ := pm_lt hf
      cases hf
      exact ih.2.2.2.2.2.2.2.2.2.1 x0 x1 x4 x5 y163 (pm_setI h s2 s1.toNatClampNeg s0) (pr_sI K0 Hs2) Hx0 Hx1 Hx4 Hx5 hi
    refine ⟨fun x0 x1 x4 x6 h K0 Hx0 Hx1 Hx4 hf => ?_, ?_⟩
    · obtain ⟨y, hf, hi⟩ := pm_iter_s hf
      have hf : tX10_create_393 x0 x1 x4 x6 h = some y := hf
      unfold tX10_create_393 at hf
      obtain ⟨k165, hf⟩ := pm_if hf
      obtain ⟨v166, e167, hf⟩ := pm_bd hf
      obtain ⟨k168, hf⟩ := pm_if hf
      by_cases c169 : (Int32.ofNat (pm_ln h v166)) ≤ x6
      · have hf := pm_it hf c169
        cases hf
        exact ih.2.2.2.2.2.2.2.2.2.2.2.2.2.2.2.1 x1 x4 0 h K0 Hx1 Hx4 hi
      · have hf := pm_ie hf c169
        obtain ⟨k170, hf⟩ := pm_if hf
        obtain ⟨v171, e172, hf⟩ := pm_bd hf
        have K173 := rgX10_fillElement K0 Hx0 Hx4 e172
        cases hf
        exact ih.2.2.2.2.2.2.2.2.2.2.2.2.2.2.2.2 x0 x1 x4 x6 v171 K173 Hx0 Hx1 Hx4 hi
    refine ⟨fun x1 x4 x6 h K0 Hx1 Hx4 hf => ?_, ?_⟩
    · obtain ⟨y, hf, hi⟩ := pm_iter_s hf
      have hf : tX10_create_421 x1 x4 x6 h = some y := hf
      unfold tX10_create_421 at hf
      obtain ⟨k174, hf⟩ := pm_if hf
      obtain ⟨v175, e176, hf⟩ := pm_bd hf
      obtain ⟨k177, hf⟩ := pm_if hf
      by_cases c178 : (Int32.ofNat (pm_ln h v175)) ≤ x6
      · have hf := pm_it hf c178
        have hf := Option.some.inj hf
        subst hf
        have hi := Option.some.inj (show some _ = some r from hi)
        subst hi
        exact ⟨K0, Hx4⟩
      · have hf := pm_ie hf c178
        obtain ⟨k179, hf⟩ := pm_if hf
        obtain ⟨v180, e181, hf⟩ := pm_bd hf
        obtain ⟨v182, e183, hf⟩ := pm_bd hf
        obtain ⟨u184, hf⟩ := pm_if hf
        obtain ⟨y185, e186, hf⟩ := pm_lt hf
        cases hf
        exact ih.2.2.2.2.2.2.2.2.2.2.2.2.2.2.2.1 x1 x4 y185 (pm_setI h v175 x6.toNatClampNeg v182) (pr_sI K0 (pr_c K0 Hx4 e176)) Hx1 Hx4 hi
    refine fun x0 x1 x4 x6 h K0 Hx0 Hx1 Hx4 hf => ?_
    obtain ⟨y, hf, hi⟩ := pm_iter_s hf
    have hf : tX10_create_412 x0 x1 x4 x6 h = some y := hf
    unfold tX10_create_412 at hf
    obtain ⟨y187, e188, hf⟩ := pm_lt hf
    cases hf
    exact ih.2.2.2.2.2.2.2.2.2.2.2.2.2.2.1 x0 x1 x4 y187 h K0 Hx0 Hx1 Hx4 hi
set_option maxHeartbeats 4000000 in
set_option maxRecDepth 100000 in
theorem rgX10_create {A : Nat → Prop} {h0 h : pm_H} (K0 : pr_F A h0 h) {a0 : Nat} {p1 : Nat} {p2 : Nat} {p3 : Int32} (Ha0 : A a0) (Hp1 : A p1) (Hp2 : A p2) {r : (Nat × pm_H)} (hf : fX10_create h a0 p1 p2 p3 = some r) : pr_F A h0 r.2 ∧ A r.1 := by
  unfold fX10_create at hf
  obtain ⟨n, hn⟩ := pm_lim_iter hf
  exact (rlX10_create n).1 a0 p1 p2 p3 h K0 Ha0 Hp1 Hp2 hn
set_option maxHeartbeats 4000000 in
set_option maxRecDepth 100000 in
theorem rgX11_init_b43 {A : Nat → Prop} {h0 h : pm_H} (K0 : pr_F A h0 h) {s0 : Nat} {s1 : Nat} (Hs0 : A s0) (Hs1 : A s1) {r : pm_H} (hf : fX11_init_b43 h s0 s1 = some r) : pr_F A h0 r := by
  unfold fX11_init_b43 at hf
  obtain ⟨k5, hf⟩ := pm_if hf
  have hf := Option.some.inj hf
  subst hf
  exact (pr_sR K0 Hs1 Hs0)
set_option maxHeartbeats 4000000 in
set_option maxRecDepth 100000 in
theorem rgX11_init_b32 {A : Nat → Prop} {h0 h : pm_H} (K0 : pr_F A h0 h) {x0 : Nat} {s0 : Nat} {s1 : Nat} (Hx0 : A x0) (Hs0 : A s0) (Hs1 : A s1) {r : pm_H} (hf : fX11_init_b32 h x0 s0 s1 = some r) : pr_F A h0 r := by
  unfold fX11_init_b32 at hf
  obtain ⟨k4, hf⟩ := pm_if hf
  exact rgX11_init_b43 (pr_ma (pr_sR K0 Hs1 Hs0)) (pr_n (pr_sR K0 Hs1 Hs0)) Hx0 hf
set_option maxHeartbeats 4000000 in
set_option maxRecDepth 100000 in
theorem rgX11_init_b24 {A : Nat → Prop} {h0 h : pm_H} (K0 : pr_F A h0 h) {x0 : Nat} {s0 : Nat} {s1 : Nat} (Hx0 : A x0) (Hs0 : A s0) (Hs1 : A s1) {r : pm_H} (hf : fX11_init_b24 h x0 s0 s1 = some r) : pr_F A h0 r := by
  unfold fX11_init_b24 at hf
  obtain ⟨k3, hf⟩ := pm_if hf
  exact rgX11_init_b32 (pr_new (pr_sR K0 Hs1 Hs0)) Hx0 (pr_n (pr_sR K0 Hs1 Hs0)) Hx0 hf
set_option maxHeartbeats 4000000 in
set_option maxRecDepth 100000 in
theorem rgX11_init_b16 {A : Nat → Prop} {h0 h : pm_H} (K0 : pr_F A h0 h) {x0 : Nat} {s0 : Nat} {s1 : Nat} (Hx0 : A x0) (Hs0 : A s0) (Hs1 : A s1) {r : pm_H} (hf : fX11_init_b16 h x0 s0 s1 = some r) : pr_F A h0 r := by
  unfold fX11_init_b16 at hf
  obtain ⟨k2, hf⟩ := pm_if hf
  exact rgX11_init_b24 (pr_new (pr_sR K0 Hs1 Hs0)) Hx0 (pr_n (pr_sR K0 Hs1 Hs0)) Hx0 hf
set_option maxHeartbeats 4000000 in
set_option maxRecDepth 100000 in
theorem rgX11_init_b0 {A : Nat → Prop} {h0 h : pm_H} (K0 : pr_F A h0 h) {x0 : Nat} (Hx0 : A x0) {r : pm_H} (hf : fX11_init_b0 h x0 = some r) : pr_F A h0 r := by
  unfold fX11_init_b0 at hf
  obtain ⟨k1, hf⟩ := pm_if hf
  exact rgX11_init_b16 (pr_new (pr_sI K0 Hx0)) Hx0 (pr_n (pr_sI K0 Hx0)) Hx0 hf
set_option maxHeartbeats 4000000 in
set_option maxRecDepth 100000 in
theorem rgX11_init {A : Nat → Prop} {h0 h : pm_H} (K0 : pr_F A h0 h) {a0 : Nat} (Ha0 : A a0) {r : pm_H} (hf : fX11_init h a0 = some r) : pr_F A h0 r := by
  unfold fX11_init at hf
  exact rgX11_init_b0 K0 Ha0 hf
set_option maxHeartbeats 4000000 in
set_option maxRecDepth 100000 in
theorem rgX9_advance_b162 {A : Nat → Prop} {h0 h : pm_H} (K0 : pr_F A h0 h)   {r : pm_H} (hf : fX9_advance_b162 h  = some r) : pr_F A h0 r := by
  unfold fX9_advance_b162 at hf
  have hf := Option.some.inj hf
  subst hf
  exact K0
set_option maxHeartbeats 4000000 in
set_option maxRecDepth 100000 in
theorem rgX9_advance_b138 {A : Nat → Prop} {h0 h : pm_H} (K0 : pr_F A h0 h) {x0 : Nat} (Hx0 : A x0) {r : pm_H} (hf : fX9_advance_b138 h x0 = some r) : pr_F A h0 r := by
  unfold fX9_advance_b138 at hf
  obtain ⟨k44, hf⟩ := pm_if hf
  by_cases c45 : (pm_I h x0 10) < 0
  · have hf := pm_it hf c45
    exact rgX9_advance_b162 K0  hf
  · have hf := pm_ie hf c45
    by_cases c46 : ((pm_I h x0 15).toInt64) < (pm_L h x0 14)
    · have hf := pm_it hf c46
      exact rgX9_advance_b162 K0  hf
    · have hf := pm_ie hf c46
      obtain ⟨v47, e48, hf⟩ := pm_bd hf
      have K49 := rgX9_closeSection K0 Hx0 e48
      exact rgX9_advance_b162 K49  hf
set_option maxHeartbeats 4000000 in
set_option maxRecDepth 100000 in
theorem rgX9_advance_b128 {A : Nat → Prop} {h0 h : pm_H} (K0 : pr_F A h0 h) {x0 : Nat} (Hx0 : A x0) {r : pm_H} (hf : fX9_advance_b128 h x0 = some r) : pr_F A h0 r := by
  unfold fX9_advance_b128 at hf
  obtain ⟨k37, hf⟩ := pm_if hf
  obtain ⟨y38, e39, hf⟩ := pm_lt hf
  exact rgX9_advance_b138 (pr_sI K0 Hx0) Hx0 hf
set_option maxHeartbeats 4000000 in
set_option maxRecDepth 100000 in
theorem rgX9_advance_b118 {A : Nat → Prop} {h0 h : pm_H} (K0 : pr_F A h0 h) {x0 : Nat} (Hx0 : A x0) {r : pm_H} (hf : fX9_advance_b118 h x0 = some r) : pr_F A h0 r := by
  unfold fX9_advance_b118 at hf
  obtain ⟨k40, hf⟩ := pm_if hf
  obtain ⟨v41, e42, hf⟩ := pm_bd hf
  have K43 := rgX9_own K0 Hx0 e42
  exact rgX9_advance_b128 K43 Hx0 hf
set_option maxHeartbeats 4000000 in
set_option maxRecDepth 100000 in
theorem rgX9_advance_b80 {A : Nat → Prop} {h0 h : pm_H} (K0 : pr_F A h0 h) {x0 : Nat} (Hx0 : A x0) {r : pm_H} (hf : fX9_advance_b80 h x0 = some r) : pr_F A h0 r := by
  unfold fX9_advance_b80 at hf
  exact rgX9_advance_b128 K0 Hx0 hf
set_option maxHeartbeats 4000000 in
set_option maxRecDepth 100000 in
theorem rgX9_advance_b11 {A : Nat → Prop} {h0 h : pm_H} (K0 : pr_F A h0 h) {x0 : Nat} (Hx0 : A x0) {r : pm_H} (hf : fX9_advance_b11 h x0 = some r) : pr_F A h0 r := by
  unfold fX9_advance_b11 at hf
  exact rgX9_advance_b138 K0 Hx0 hf
set_option maxHeartbeats 4000000 in
set_option maxRecDepth 100000 in
theorem rgX9_advance_b0 {A : Nat → Prop} {h0 h : pm_H} (K0 : pr_F A h0 h) {x0 : Nat} (Hx0 : A x0) {r : pm_H} (hf : fX9_advance_b0 h x0 = some r) : pr_F A h0 r := by
  unfold fX9_advance_b0 at hf
  obtain ⟨k1, hf⟩ := pm_if hf
  by_cases c2 : 0 ≤ (pm_I h x0 10)
  · have hf := pm_it hf c2
    obtain ⟨y3, e4, hf⟩ := pm_lt hf
    by_cases c5 : y3 = 1
    · have hf := pm_it hf c5
      obtain ⟨v6, e7, hf⟩ := pm_bd hf
      have K8 := rgX9_functionType K0 Hx0 e7
      exact rgX9_advance_b80 K8 Hx0 hf
    have hf := pm_ie hf c5
    by_cases c9 : y3 = 2
    · have hf := pm_it hf c9
      obtain ⟨v10, e11, hf⟩ := pm_bd hf
      have K12 := rgX9_importOne K0 Hx0 e11
      exact rgX9_advance_b128 K12 Hx0 hf
    have hf := pm_ie hf c9
    by_cases c13 : y3 = 3
    · have hf := pm_it hf c13
      exact rgX9_advance_b118 K0 Hx0 hf
    have hf := pm_ie hf c13
    by_cases c14 : y3 = 4
    · have hf := pm_it hf c14
      exact rgX9_advance_b118 K0 Hx0 hf
    have hf := pm_ie hf c14
    by_cases c15 : y3 = 5
    · have hf := pm_it hf c15
      exact rgX9_advance_b118 K0 Hx0 hf
    have hf := pm_ie hf c15
    by_cases c16 : y3 = 6
    · have hf := pm_it hf c16
      exact rgX9_advance_b118 K0 Hx0 hf
    have hf := pm_ie hf c16
    by_cases c17 : y3 = 7
    · have hf := pm_it hf c17
      obtain ⟨v18, e19, hf⟩ := pm_bd hf
      have K20 := rgX9_exportOne K0 Hx0 e19
      exact rgX9_advance_b128 K20 Hx0 hf
    have hf := pm_ie hf c17
    by_cases c21 : y3 = 8
    · have hf := pm_it hf c21
      exact rgX9_advance_b118 K0 Hx0 hf
    have hf := pm_ie hf c21
    by_cases c22 : y3 = 9
    · have hf := pm_it hf c22
      obtain ⟨v23, e24, hf⟩ := pm_bd hf
      have K25 := rgX9_element K0 Hx0 e24
      exact rgX9_advance_b128 K25 Hx0 hf
    have hf := pm_ie hf c22
    by_cases c26 : y3 = 10
    · have hf := pm_it hf c26
      obtain ⟨v27, e28, hf⟩ := pm_bd hf
      have K29 := rgX9_body K0 Hx0 e28
      exact rgX9_advance_b128 K29 Hx0 hf
    have hf := pm_ie hf c26
    by_cases c30 : y3 = 11
    · have hf := pm_it hf c30
      obtain ⟨v31, e32, hf⟩ := pm_bd hf
      have K33 := rgX9_dataOne K0 Hx0 e32
      exact rgX9_advance_b128 K33 Hx0 hf
    have hf := pm_ie hf c30
    exact rgX9_advance_b118 K0 Hx0 hf
  · have hf := pm_ie hf c2
    obtain ⟨v34, e35, hf⟩ := pm_bd hf
    have K36 := rgX9_openSection K0 Hx0 e35
    exact rgX9_advance_b11 K36 Hx0 hf
set_option maxHeartbeats 4000000 in
set_option maxRecDepth 100000 in
theorem rgX9_advance {A : Nat → Prop} {h0 h : pm_H} (K0 : pr_F A h0 h) {a0 : Nat} (Ha0 : A a0) {r : pm_H} (hf : fX9_advance h a0 = some r) : pr_F A h0 r := by
  unfold fX9_advance at hf
  exact rgX9_advance_b0 K0 Ha0 hf
set_option maxHeartbeats 4000000 in
set_option maxRecDepth 100000 in
theorem rlX10_init {A : Nat → Prop} {h0 : pm_H} {r : pm_H} : ∀ n : Nat, (∀ (x0 : Nat) (x1 : Nat) (x2 : Nat) (h : pm_H), pr_F A h0 h → A x0 → A x1 → A x2 → pm_iter sX10_init n (.inl (x0, x1, x2, h)) = some r → pr_F A h0 r) ∧ (∀ (x0 : Nat) (x1 : Nat) (x2 : Nat) (s0 : Nat) (s1 : Nat) (h : pm_H), pr_F A h0 h → A x0 → A x1 → A x2 → A s0 → A s1 → pm_iter sX10_init n (.inr (.inl (x0, x1, x2, s0, s1, h))) = some r → pr_F A h0 r) ∧ (∀ (x0 : Nat) (x1 : Nat) (x2 : Nat) (s0 : Nat) (s1 : Nat) (h : pm_H), pr_F A h0 h → A x0 → A x1 → A x2 → A s0 → A s1 → pm_iter sX10_init n (.inr (.inr (.inl (x0, x1, x2, s0, s1, h)))) = some r → pr_F A h0 r) ∧ (∀ (x0 : Nat) (x1 : Nat) (x2 : Nat) (s0 : Nat) (s1 : Nat) (h : pm_H), pr_F A h0 h → A x0 → A x1 → A x2 → A s0 → A s1 → pm_iter sX10_init n (.inr (.inr (.inr (.inl (x0, x1, x2, s0, s1, h))))) = some r → pr_F A h0 r) ∧ (∀ (x0 : Nat) (x1 : Nat) (x2 : Nat) (s0 : Nat) (s1 : Nat) (h : pm_H), pr_F A h0 h → A x0 → A x1 → A x2 → A s0 → A s1 → pm_iter sX10_init n (.inr (.inr (.inr (.inr (.inl (x0, x1, x2, s0, s1, h)))))) = some r → pr_F A h0 r) ∧ (∀ (x0 : Nat) (x1 : Nat) (x2 : Nat) (s0 : Nat) (s1 : Nat) (h : pm_H), pr_F A h0 h → A x0 → A x1 → A x2 → A s0 → A s1 → pm_iter sX10_init n (.inr (.inr (.inr (.inr (.inr (.inl (x0, x1, x2, s0, s1, h))))))) = some r → pr_F A h0 r) ∧ (∀ (x0 : Nat) (x1 : Nat) (x2 : Nat) (s0 : Nat) (s1 : Nat) (h : pm_H), pr_F A h0 h → A x0 → A x1 → A x2 → A s0 → A s1 → pm_iter sX10_init n (.inr (.inr (.inr (.inr (.inr (.inr (.inl (x0, x1, x2, s0, s1, h)))))))) = some r → pr_F A h0 r) ∧ (∀ (x0 : Nat) (x1 : Nat) (x2 : Nat) (s0 : Nat) (s1 : Nat) (h : pm_H), pr_F A h0 h → A x0 → A x1 → A x2 → A s0 → A s1 → pm_iter sX10_init n (.inr (.inr (.inr (.inr (.inr (.inr (.inr (.inl (x0, x1, x2, s0, s1, h))))))))) = some r → pr_F A h0 r) ∧ (∀ (x0 : Nat) (x1 : Nat) (x2 : Nat) (s0 : Nat) (s1 : Nat) (h : pm_H), pr_F A h0 h → A x0 → A x1 → A x2 → A s0 → A s1 → pm_iter sX10_init n (.inr (.inr (.inr (.inr (.inr (.inr (.inr (.inr (.inl (x0, x1, x2, s0, s1, h)))))))))) = some r → pr_F A h0 r) ∧ (∀ (x0 : Nat) (x1 : Nat) (x2 : Nat) (s0 : Nat) (s1 : Nat) (h : pm_H), pr_F A h0 h → A x0 → A x1 → A x2 → A s0 → A s1 → pm_iter sX10_init n (.inr (.inr (.inr (.inr (.inr (.inr (.inr (.inr (.inr (.inl (x0, x1, x2, s0, s1, h))))))))))) = some r → pr_F A h0 r) ∧ (∀ (x0 : Nat) (x1 : Nat) (x2 : Nat) (s0 : Nat) (s1 : Nat) (h : pm_H), pr_F A h0 h → A x0 → A x1 → A x2 → A s0 → A s1 → pm_iter sX10_init n (.inr (.inr (.inr (.inr (.inr (.inr (.inr (.inr (.inr (.inr (.inl (x0, x1, x2, s0, s1, h)))))))))))) = some r → pr_F A h0 r) ∧ (∀ (x0 : Nat) (x1 : Nat) (x2 : Nat) (s0 : Nat) (s1 : Nat) (h : pm_H), pr_F A h0 h → A x0 → A x1 → A x2 → A s0 → A s1 → pm_iter sX10_init n (.inr (.inr (.inr (.inr (.inr (.inr (.inr (.inr (.inr (.inr (.inr (.inl (x0, x1, x2, s0, s1, h))))))))))))) = some r → pr_F A h0 r) ∧ (∀ (x0 : Nat) (x1 : Nat) (x2 : Nat) (s0 : Nat) (s1 : Nat) (h : pm_H), pr_F A h0 h → A x0 → A x1 → A x2 → A s0 → A s1 → pm_iter sX10_init n (.inr (.inr (.inr (.inr (.inr (.inr (.inr (.inr (.inr (.inr (.inr (.inr (.inl (x0, x1, x2, s0, s1, h)))))))))))))) = some r → pr_F A h0 r) ∧ (∀ (x0 : Nat) (x1 : Nat) (x2 : Nat) (s0 : Nat) (s1 : Nat) (h : pm_H), pr_F A h0 h → A x0 → A x1 → A x2 → A s0 → A s1 → pm_iter sX10_init n (.inr (.inr (.inr (.inr (.inr (.inr (.inr (.inr (.inr (.inr (.inr (.inr (.inr (.inl (x0, x1, x2, s0, s1, h))))))))))))))) = some r → pr_F A h0 r) ∧ (∀ (x0 : Nat) (x1 : Nat) (x2 : Nat) (s0 : Nat) (s1 : Nat) (h : pm_H), pr_F A h0 h → A x0 → A x1 → A x2 → A s0 → A s1 → pm_iter sX10_init n (.inr (.inr (.inr (.inr (.inr (.inr (.inr (.inr (.inr (.inr (.inr (.inr (.inr (.inr (.inl (x0, x1, x2, s0, s1, h)))))))))))))))) = some r → pr_F A h0 r) ∧ (∀ (x0 : Nat) (x2 : Nat) (s0 : Nat) (s1 : Nat) (h : pm_H), pr_F A h0 h → A x0 → A x2 → A s0 → A s1 → pm_iter sX10_init n (.inr (.inr (.inr (.inr (.inr (.inr (.inr (.inr (.inr (.inr (.inr (.inr (.inr (.inr (.inr (.inl (x0, x2, s0, s1, h))))))))))))))))) = some r → pr_F A h0 r) ∧ (∀ (x0 : Nat) (s0 : Nat) (s1 : Nat) (h : pm_H), pr_F A h0 h → A x0 → A s0 → A s1 → pm_iter sX10_init n (.inr (.inr (.inr (.inr (.inr (.inr (.inr (.inr (.inr (.inr (.inr (.inr (.inr (.inr (.inr (.inr (.inl (x0, s0, s1, h)))))))))))))))))) = some r → pr_F A h0 r) ∧ (∀ (x0 : Nat) (s0 : Nat) (h : pm_H), pr_F A h0 h → A x0 → A s0 → pm_iter sX10_init n (.inr (.inr (.inr (.inr (.inr (.inr (.inr (.inr (.inr (.inr (.inr (.inr (.inr (.inr (.inr (.inr (.inr (.inl (x0, s0, h))))))))))))))))))) = some r → pr_F A h0 r) ∧ (∀ (x0 : Nat) (s0 : Nat) (s1 : Nat) (s2 : Nat) (h : pm_H), pr_F A h0 h → A x0 → A s0 → A s1 → A s2 → pm_iter sX10_init n (.inr (.inr (.inr (.inr (.inr (.inr (.inr (.inr (.inr (.inr (.inr (.inr (.inr (.inr (.inr (.inr (.inr (.inr (.inl (x0, s0, s1, s2, h)))))))))))))))))))) = some r → pr_F A h0 r) ∧ (∀ (x0 : Nat) (s0 : Nat) (h : pm_H), pr_F A h0 h → A x0 → A s0 → pm_iter sX10_init n (.inr (.inr (.inr (.inr (.inr (.inr (.inr (.inr (.inr (.inr (.inr (.inr (.inr (.inr (.inr (.inr (.inr (.inr (.inr (.inl (x0, s0, h))))))))))))))))))))) = some r → pr_F A h0 r) ∧ (∀ (x0 : Nat) (x3 : Nat) (x4 : Int32) (h : pm_H), pr_F A h0 h → A x0 → A x3 → pm_iter sX10_init n (.inr (.inr (.inr (.inr (.inr (.inr (.inr (.inr (.inr (.inr (.inr (.inr (.inr (.inr (.inr (.inr (.inr (.inr (.inr (.inr (.inl (x0, x3, x4, h)))))))))))))))))))))) = some r → pr_F A h0 r) ∧ (∀ (x0 : Nat) (x4 : Int32) (h : pm_H), pr_F A h0 h → A x0 → pm_iter sX10_init n (.inr (.inr (.inr (.inr (.inr (.inr (.inr (.inr (.inr (.inr (.inr (.inr (.inr (.inr (.inr (.inr (.inr (.inr (.inr (.inr (.inr (.inl (x0, x4, h))))))))))))))))))))))) = some r → pr_F A h0 r) ∧ (∀ (x0 : Nat) (x4 : Int32) (h : pm_H), pr_F A h0 h → A x0 → pm_iter sX10_init n (.inr (.inr (.inr (.inr (.inr (.inr (.inr (.inr (.inr (.inr (.inr (.inr (.inr (.inr (.inr (.inr (.inr (.inr (.inr (.inr (.inr (.inr (x0, x4, h))))))))))))))))))))))) = some r → pr_F A h0 r) := by
  intro n
  induction n with
  | zero => exact ⟨fun _ _ _ _ _ _ _ _ hf => (by cases hf), fun _ _ _ _ _ _ _ _ _ _ _ _ hf => (by cases hf), fun _ _ _ _ _ _ _ _ _ _ _ _ hf => (by cases hf), fun _ _ _ _ _ _ _ _ _ _ _ _ hf => (by cases hf), fun _ _ _ _ _ _ _ _ _ _ _ _ hf => (by cases hf), fun _ _ _ _ _ _ _ _ _ _ _ _ hf => (by cases hf), fun _ _ _ _ _ _ _ _ _ _ _ _ hf => (by cases hf), fun _ _ _ _ _ _ _ _ _ _ _ _ hf => (by cases hf), fun _ _ _ _ _ _ _ _ _ _ _ _ hf => (by cases hf), fun _ _ _ _ _ _ _ _ _ _ _ _ hf => (by cases hf), fun _ _ _ _ _ _ _ _ _ _ _ _ hf => (by cases hf), fun _ _ _ _ _ _ _ _ _ _ _ _ hf => (by cases hf), fun _ _ _ _ _ _ _ _ _ _ _ _ hf => (by cases hf), fun _ _ _ _ _ _ _ _ _ _ _ _ hf => (by cases hf), fun _ _ _ _ _ _ _ _ _ _ _ _ hf => (by cases hf), fun _ _ _ _ _ _ _ _ _ _ hf => (by cases hf), fun _ _ _ _ _ _ _ _ hf => (by cases hf), fun _ _ _ _ _ _ hf => (by cases hf), fun _ _ _ _ _ _ _ _ _ _ hf => (by cases hf), fun _ _ _ _ _ _ hf => (by cases hf), fun _ _ _ _ _ _ _ hf => (by cases hf), fun _ _ _ _ _ hf => (by cases hf), fun _ _ _ _ _ hf => (by cases hf)⟩
  | succ n ih =>
    refine ⟨fun x0 x1 x2 h K0 Hx0 Hx1 Hx2 hf => ?_, ?_⟩
    · obtain ⟨y, hf, hi⟩ := pm_iter_s hf
      have hf : tX10_init_0 x0 x1 x2 h = some y := hf
      unfold tX10_init_0 at hf
      cases hf
      exact ih.2.1 x0 x1 x2 (pm_sz h) x0 (pm_new h 11 0) (pr_new K0) Hx0 Hx1 Hx2 (pr_n K0) Hx0 hi
    refine ⟨fun x0 x1 x2 s0 s1 h K0 Hx0 Hx1 Hx2 Hs0 Hs1 hf => ?_, ?_⟩
    · obtain ⟨y, hf, hi⟩ := pm_iter_s hf
      have hf : tX10_init_8 x0 x1 x2 s0 s1 h = some y := hf
      unfold tX10_init_8 at hf
      obtain ⟨v1, e2, hf⟩ := pm_bd hf
      have K3 := rgX11_init K0 Hs0 e2
      cases hf
      exact ih.2.2.1 x0 x1 x2 s0 s1 v1 K3 Hx0 Hx1 Hx2 Hs0 Hs1 hi
    refine ⟨fun x0 x1 x2 s0 s1 h K0 Hx0 Hx1 Hx2 Hs0 Hs1 hf => ?_, ?_⟩
    · obtain ⟨y, hf, hi⟩ := pm_iter_s hf
      have hf : tX10_init_12 x0 x1 x2 s0 s1 h = some y := hf
      unfold tX10_init_12 at hf
      obtain ⟨k4, hf⟩ := pm_if hf
      cases hf
      exact ih.2.2.2.1 x0 x1 x2 (pm_sz (pm_setR h s1 4 (some s0))) x0 (pm_new (pm_setR h s1 4 (some s0)) 6 0) (pr_new (pr_sR K0 Hs1 Hs0)) Hx0 Hx1 Hx2 (pr_n (pr_sR K0 Hs1 Hs0)) Hx0 hi
    refine ⟨fun x0 x1 x2 s0 s1 h K0 Hx0 Hx1 Hx2 Hs0 Hs1 hf => ?_, ?_⟩
    · obtain ⟨y, hf, hi⟩ := pm_iter_s hf
      have hf : tX10_init_19 x0 x1 x2 s0 s1 h = some y := hf
      unfold tX10_init_19 at hf
      obtain ⟨v5, e6, hf⟩ := pm_bd hf
      have K7 := rgX6_init K0 Hs0 e6
      cases hf
      exact ih.2.2.2.2.1 x0 x1 x2 s0 s1 v5 K7 Hx0 Hx1 Hx2 Hs0 Hs1 hi
    refine ⟨fun x0 x1 x2 s0 s1 h K0 Hx0 Hx1 Hx2 Hs0 Hs1 hf => ?_, ?_⟩
    · obtain ⟨y, hf, hi⟩ := pm_iter_s hf
      have hf : tX10_init_23 x0 x1 x2 s0 s1 h = some y := hf
      unfold tX10_init_23 at hf
      obtain ⟨k8, hf⟩ := pm_if hf
      cases hf
      exact ih.2.2.2.2.2.1 x0 x1 x2 (pm_sz (pm_setR h s1 5 (some s0))) x0 (pm_new (pm_setR h s1 5 (some s0)) 34 256) (pr_new (pr_sR K0 Hs1 Hs0)) Hx0 Hx1 Hx2 (pr_n (pr_sR K0 Hs1 Hs0)) Hx0 hi
    refine ⟨fun x0 x1 x2 s0 s1 h K0 Hx0 Hx1 Hx2 Hs0 Hs1 hf => ?_, ?_⟩
    · obtain ⟨y, hf, hi⟩ := pm_iter_s hf
      have hf : tX10_init_32 x0 x1 x2 s0 s1 h = some y := hf
      unfold tX10_init_32 at hf
      obtain ⟨k9, hf⟩ := pm_if hf
      cases hf
      exact ih.2.2.2.2.2.2.1 x0 x1 x2 (pm_sz (pm_setR h s1 6 (some s0))) x0 (pm_new (pm_setR h s1 6 (some s0)) 35 256) (pr_new (pr_sR K0 Hs1 Hs0)) Hx0 Hx1 Hx2 (pr_n (pr_sR K0 Hs1 Hs0)) Hx0 hi
    refine ⟨fun x0 x1 x2 s0 s1 h K0 Hx0 Hx1 Hx2 Hs0 Hs1 hf => ?_, ?_⟩
    · obtain ⟨y, hf, hi⟩ := pm_iter_s hf
      have hf : tX10_init_41 x0 x1 x2 s0 s1 h = some y := hf
      unfold tX10_init_41 at hf
      obtain ⟨k10, hf⟩ := pm_if hf
      cases hf
      exact ih.2.2.2.2.2.2.2.1 x0 x1 x2 (pm_sz (pm_setR h s1 7 (some s0))) x0 (pm_new (pm_setR h s1 7 (some s0)) 32 256) (pr_new (pr_sR K0 Hs1 Hs0)) Hx0 Hx1 Hx2 (pr_n (pr_sR K0 Hs1 Hs0)) Hx0 hi
    refine ⟨fun x0 x1 x2 s0 s1 h K0 Hx0 Hx1 Hx2 Hs0 Hs1 hf => ?_, ?_⟩
    · obtain ⟨y, hf, hi⟩ := pm_iter_s hf
      have hf : tX10_init_50 x0 x1 x2 s0 s1 h = some y := hf
      unfold tX10_init_50 at hf
      obtain ⟨k11, hf⟩ := pm_if hf
      cases hf
      exact ih.2.2.2.2.2.2.2.2.1 x0 x1 x2 (pm_sz (pm_setR h s1 8 (some s0))) x0 (pm_new (pm_setR h s1 8 (some s0)) 38 512) (pr_new (pr_sR K0 Hs1 Hs0)) Hx0 Hx1 Hx2 (pr_n (pr_sR K0 Hs1 Hs0)) Hx0 hi
    refine ⟨fun x0 x1 x2 s0 s1 h K0 Hx0 Hx1 Hx2 Hs0 Hs1 hf => ?_, ?_⟩
    · obtain ⟨y, hf, hi⟩ := pm_iter_s hf
      have hf : tX10_init_60 x0 x1 x2 s0 s1 h = some y := hf
      unfold tX10_init_60 at hf
      obtain ⟨k12, hf⟩ := pm_if hf
      cases hf
      exact ih.2.2.2.2.2.2.2.2.2.1 x0 x1 x2 (pm_sz (pm_setR h s1 10 (some s0))) x0 (pm_new (pm_setR h s1 10 (some s0)) 40 512) (pr_new (pr_sR K0 Hs1 Hs0)) Hx0 Hx1 Hx2 (pr_n (pr_sR K0 Hs1 Hs0)) Hx0 hi
    refine ⟨fun x0 x1 x2 s0 s1 h K0 Hx0 Hx1 Hx2 Hs0 Hs1 hf => ?_, ?_⟩
    · obtain ⟨y, hf, hi⟩ := pm_iter_s hf
      have hf : tX10_init_70 x0 x1 x2 s0 s1 h = some y := hf
      unfold tX10_init_70 at hf
      obtain ⟨k13, hf⟩ := pm_if hf
      cases hf
      exact ih.2.2.2.2.2.2.2.2.2.2.1 x0 x1 x2 (pm_sz (pm_setR h s1 11 (some s0))) x0 (pm_new (pm_setR h s1 11 (some s0)) 34 512) (pr_new (pr_sR K0 Hs1 Hs0)) Hx0 Hx1 Hx2 (pr_n (pr_sR K0 Hs1 Hs0)) Hx0 hi
    refine ⟨fun x0 x1 x2 s0 s1 h K0 Hx0 Hx1 Hx2 Hs0 Hs1 hf => ?_, ?_⟩
    · obtain ⟨y, hf, hi⟩ := pm_iter_s hf
      have hf : tX10_init_79 x0 x1 x2 s0 s1 h = some y := hf
      unfold tX10_init_79 at hf
      obtain ⟨k14, hf⟩ := pm_if hf
      cases hf
      exact ih.2.2.2.2.2.2.2.2.2.2.2.1 x0 x1 x2 (pm_sz (pm_setR h s1 12 (some s0))) x0 (pm_new (pm_setR h s1 12 (some s0)) 34 512) (pr_new (pr_sR K0 Hs1 Hs0)) Hx0 Hx1 Hx2 (pr_n (pr_sR K0 Hs1 Hs0)) Hx0 hi
    refine ⟨fun x0 x1 x2 s0 s1 h K0 Hx0 Hx1 Hx2 Hs0 Hs1 hf => ?_, ?_⟩
    · obtain ⟨y, hf, hi⟩ := pm_iter_s hf
      have hf : tX10_init_88 x0 x1 x2 s0 s1 h = some y := hf
      unfold tX10_init_88 at hf
      obtain ⟨k15, hf⟩ := pm_if hf
      cases hf
      exact ih.2.2.2.2.2.2.2.2.2.2.2.2.1 x0 x1 x2 (pm_sz (pm_setR h s1 13 (some s0))) x0 (pm_new (pm_setR h s1 13 (some s0)) 32 512) (pr_new (pr_sR K0 Hs1 Hs0)) Hx0 Hx1 Hx2 (pr_n (pr_sR K0 Hs1 Hs0)) Hx0 hi
    refine ⟨fun x0 x1 x2 s0 s1 h K0 Hx0 Hx1 Hx2 Hs0 Hs1 hf => ?_, ?_⟩
    · obtain ⟨y, hf, hi⟩ := pm_iter_s hf
      have hf : tX10_init_97 x0 x1 x2 s0 s1 h = some y := hf
      unfold tX10_init_97 at hf
      obtain ⟨k16, hf⟩ := pm_if hf
      cases hf
      exact ih.2.2.2.2.2.2.2.2.2.2.2.2.2.1 x0 x1 x2 (pm_sz (pm_setR h s1 14 (some s0))) x0 (pm_new (pm_setR h s1 14 (some s0)) 40 16) (pr_new (pr_sR K0 Hs1 Hs0)) Hx0 Hx1 Hx2 (pr_n (pr_sR K0 Hs1 Hs0)) Hx0 hi
    refine ⟨fun x0 x1 x2 s0 s1 h K0 Hx0 Hx1 Hx2 Hs0 Hs1 hf => ?_, ?_⟩
    · obtain ⟨y, hf, hi⟩ := pm_iter_s hf
      have hf : tX10_init_106 x0 x1 x2 s0 s1 h = some y := hf
      unfold tX10_init_106 at hf
      obtain ⟨k17, hf⟩ := pm_if hf
      obtain ⟨k18, hf⟩ := pm_if hf
      cases hf
      exact ih.2.2.2.2.2.2.2.2.2.2.2.2.2.2.1 x0 x1 x2 (pm_sz (pm_setI (pm_setR h s1 15 (some s0)) x0 17 2048)) x0 (pm_new (pm_setI (pm_setR h s1 15 (some s0)) x0 17 2048) 8 0) (pr_new (pr_sI (pr_sR K0 Hs1 Hs0) Hx0)) Hx0 Hx1 Hx2 (pr_n (pr_sI (pr_sR K0 Hs1 Hs0) Hx0)) Hx0 hi
    refine ⟨fun x0 x1 x2 s0 s1 h K0 Hx0 Hx1 Hx2 Hs0 Hs1 hf => ?_, ?_⟩
    · obtain ⟨y, hf, hi⟩ := pm_iter_s hf
      have hf : tX10_init_120 x0 x1 x2 s0 s1 h = some y := hf
      unfold tX10_init_120 at hf
      obtain ⟨v19, e20, hf⟩ := pm_lt hf
      obtain ⟨k21, hf⟩ := pm_if hf
      obtain ⟨k22, hf⟩ := pm_if hf
      cases hf
      exact ih.2.2.2.2.2.2.2.2.2.2.2.2.2.2.2.1 x0 x2 (pm_sz (pm_setR (pm_setR h s1 19 (some s0)) x0 18 (some x1))) x0 (pm_new (pm_setR (pm_setR h s1 19 (some s0)) x0 18 (some x1)) 4 0) (pr_new (pr_sR (pr_sR K0 Hs1 Hs0) Hx0 Hx1)) Hx0 Hx2 (pr_n (pr_sR (pr_sR K0 Hs1 Hs0) Hx0 Hx1)) Hx0 hi
    refine ⟨fun x0 x2 s0 s1 h K0 Hx0 Hx2 Hs0 Hs1 hf => ?_, ?_⟩
    · obtain ⟨y, hf, hi⟩ := pm_iter_s hf
      have hf : tX10_init_136 x0 x2 s0 s1 h = some y := hf
      unfold tX10_init_136 at hf
      obtain ⟨v23, e24, hf⟩ := pm_bd hf
      have K25 := rgX4_init K0 Hs0 Hx2 e24
      cases hf
      exact ih.2.2.2.2.2.2.2.2.2.2.2.2.2.2.2.2.1 x0 s0 s1 v23 K25 Hx0 Hs0 Hs1 hi
    refine ⟨fun x0 s0 s1 h K0 Hx0 Hs0 Hs1 hf => ?_, ?_⟩
    · obtain ⟨y, hf, hi⟩ := pm_iter_s hf
      have hf : tX10_init_141 x0 s0 s1 h = some y := hf
      unfold tX10_init_141 at hf
      obtain ⟨k26, hf⟩ := pm_if hf
      cases hf
      exact ih.2.2.2.2.2.2.2.2.2.2.2.2.2.2.2.2.2.1 x0 (pm_sz (pm_setR h s1 16 (some s0))) (pm_new (pm_setR h s1 16 (some s0)) 0 0) (pr_new (pr_sR K0 Hs1 Hs0)) Hx0 (pr_n (pr_sR K0 Hs1 Hs0)) hi
    refine ⟨fun x0 s0 h K0 Hx0 Hs0 hf => ?_, ?_⟩
    · obtain ⟨y, hf, hi⟩ := pm_iter_s hf
      have hf : tX10_init_147 x0 s0 h = some y := hf
      unfold tX10_init_147 at hf
      cases hf
      exact ih.2.2.2.2.2.2.2.2.2.2.2.2.2.2.2.2.2.2.1 x0 (pm_sz h) s0 s0 (pm_new h 34 2) (pr_new K0) Hx0 (pr_n K0) Hs0 Hs0 hi
    refine ⟨fun x0 s0 s1 s2 h K0 Hx0 Hs0 Hs1 Hs2 hf => ?_, ?_⟩
    · obtain ⟨y, hf, hi⟩ := pm_iter_s hf
      have hf : tX10_init_151 x0 s0 s1 s2 h = some y := hf
      unfold tX10_init_151 at hf
      obtain ⟨v27, e28, hf⟩ := pm_bd hf
      have K29 := rgX0_init K0 Hs1 Hs0 e28
      cases hf
      exact ih.2.2.2.2.2.2.2.2.2.2.2.2.2.2.2.2.2.2.2.1 x0 s2 v27 K29 Hx0 Hs2 hi
    refine ⟨fun x0 s0 h K0 Hx0 Hs0 hf => ?_, ?_⟩
    · obtain ⟨y, hf, hi⟩ := pm_iter_s hf
      have hf : tX10_init_155 x0 s0 h = some y := hf
      unfold tX10_init_155 at hf
      cases hf
      exact ih.2.2.2.2.2.2.2.2.2.2.2.2.2.2.2.2.2.2.2.2.1 x0 s0 0 h K0 Hx0 Hs0 hi
    refine ⟨fun x0 x3 x4 h K0 Hx0 Hx3 hf => ?_, ?_⟩
    · obtain ⟨y, hf, hi⟩ := pm_iter_s hf
      have hf : tX10_init_159 x0 x3 x4 h = some y := hf
      unfold tX10_init_159 at hf
      obtain ⟨k30, hf⟩ := pm_if hf
      obtain ⟨v31, e32, hf⟩ := pm_bd hf
      obtain ⟨k33, hf⟩ := pm_if hf
      by_cases c34 : (Int32.ofNat (pm_ln h v31)) ≤ x4
      · have hf := pm_it hf c34
        cases hf
        exact ih.2.2.2.2.2.2.2.2.2.2.2.2.2.2.2.2.2.2.2.2.2.1 x0 0 h K0 Hx0 hi
      · have hf := pm_ie hf c34
        obtain ⟨k35, hf⟩ := pm_if hf
        obtain ⟨u36, hf⟩ := pm_if hf
        obtain ⟨y37, e38, hf⟩ := pm_lt hf
        cases hf
        exact ih.2.2.2.2.2.2.2.2.2.2.2.2.2.2.2.2.2.2.2.2.1 x0 x3 y37 (pm_setR h v31 x4.toNatClampNeg (some x3)) (pr_sR K0 (pr_c K0 Hx0 e32) Hx3) Hx0 Hx3 hi
    refine ⟨fun x0 x4 h K0 Hx0 hf => ?_, ?_⟩
    · obtain ⟨y, hf, hi⟩ := pm_iter_s hf
      have hf : tX10_init_186 x0 x4 h = some y := hf
      unfold tX10_init_186 at hf
      obtain ⟨k39, hf⟩ := pm_if hf
      obtain ⟨v40, e41, hf⟩ := pm_bd hf
      obtain ⟨k42, hf⟩ := pm_if hf
      by_cases c43 : (Int32.ofNat (pm_ln h v40)) ≤ x4
      · have hf := pm_it hf c43
        cases hf
        exact ih.2.2.2.2.2.2.2.2.2.2.2.2.2.2.2.2.2.2.2.2.2.2 x0 0 h K0 Hx0 hi
      · have hf := pm_ie hf c43
        obtain ⟨v44, e45, hf⟩ := pm_bd hf
        obtain ⟨k46, hf⟩ := pm_if hf
        obtain ⟨u47, hf⟩ := pm_if hf
        obtain ⟨y48, e49, hf⟩ := pm_lt hf
        cases hf
        exact ih.2.2.2.2.2.2.2.2.2.2.2.2.2.2.2.2.2.2.2.2.2.1 x0 y48 (pm_setR h v40 x4.toNatClampNeg (some v44)) (pr_sR K0 (pr_c K0 Hx0 e41) (pr_c K0 Hx0 e45)) Hx0 hi
    refine fun x0 x4 h K0 Hx0 hf => ?_
    obtain ⟨y, hf, hi⟩ := pm_iter_s hf
    have hf : tX10_init_216 x0 x4 h = some y := hf
    unfold tX10_init_216 at hf
    obtain ⟨k50, hf⟩ := pm_if hf
    obtain ⟨v51, e52, hf⟩ := pm_bd hf
    obtain ⟨k53, hf⟩ := pm_if hf
    by_cases c54 : (Int32.ofNat (pm_ln h v51)) ≤ x4
    · have hf := pm_it hf c54
      have hf := Option.some.inj hf
      subst hf
      have hi := Option.some.inj (show some _ = some r from hi)
      subst hi
      exact K0
    · have hf := pm_ie hf c54
      obtain ⟨v55, e56, hf⟩ := pm_bd hf
      obtain ⟨k57, hf⟩ := pm_if hf
      obtain ⟨u58, hf⟩ := pm_if hf
      obtain ⟨y59, e60, hf⟩ := pm_lt hf
      cases hf
      exact ih.2.2.2.2.2.2.2.2.2.2.2.2.2.2.2.2.2.2.2.2.2.2 x0 y59 (pm_setR h v51 x4.toNatClampNeg (some v55)) (pr_sR K0 (pr_c K0 Hx0 e52) (pr_c K0 Hx0 e56)) Hx0 hi
set_option maxHeartbeats 4000000 in
set_option maxRecDepth 100000 in
theorem rgX10_init {A : Nat → Prop} {h0 h : pm_H} (K0 : pr_F A h0 h) {a0 : Nat} {p1 : Nat} {p2 : Nat} (Ha0 : A a0) (Hp1 : A p1) (Hp2 : A p2) {r : pm_H} (hf : fX10_init h a0 p1 p2 = some r) : pr_F A h0 r := by
  unfold fX10_init at hf
  obtain ⟨n, hn⟩ := pm_lim_iter hf
  exact (rlX10_init n).1 a0 p1 p2 h K0 Ha0 Hp1 Hp2 hn
set_option maxHeartbeats 4000000 in
set_option maxRecDepth 100000 in
theorem rlX12_init {A : Nat → Prop} {h0 : pm_H} {r : pm_H} : ∀ n : Nat, (∀ (x0 : Nat) (h : pm_H), pr_F A h0 h → A x0 → pm_iter sX12_init n (.inl (x0, h)) = some r → pr_F A h0 r) ∧ (∀ (x0 : Nat) (s0 : Nat) (s1 : Nat) (h : pm_H), pr_F A h0 h → A x0 → A s0 → A s1 → pm_iter sX12_init n (.inr (.inl (x0, s0, s1, h))) = some r → pr_F A h0 r) ∧ (∀ (x0 : Nat) (s0 : Nat) (s1 : Nat) (h : pm_H), pr_F A h0 h → A x0 → A s0 → A s1 → pm_iter sX12_init n (.inr (.inr (.inl (x0, s0, s1, h)))) = some r → pr_F A h0 r) ∧ (∀ (x0 : Nat) (s0 : Nat) (s1 : Nat) (h : pm_H), pr_F A h0 h → A x0 → A s0 → A s1 → pm_iter sX12_init n (.inr (.inr (.inr (.inl (x0, s0, s1, h))))) = some r → pr_F A h0 r) ∧ (∀ (x0 : Nat) (s0 : Nat) (s1 : Nat) (h : pm_H), pr_F A h0 h → A x0 → A s0 → A s1 → pm_iter sX12_init n (.inr (.inr (.inr (.inr (.inl (x0, s0, s1, h)))))) = some r → pr_F A h0 r) ∧ (∀ (x0 : Nat) (s0 : Nat) (h : pm_H), pr_F A h0 h → A x0 → A s0 → pm_iter sX12_init n (.inr (.inr (.inr (.inr (.inr (.inl (x0, s0, h))))))) = some r → pr_F A h0 r) ∧ (∀ (x0 : Nat) (s0 : Nat) (s1 : Nat) (s2 : Nat) (h : pm_H), pr_F A h0 h → A x0 → A s0 → A s1 → A s2 → pm_iter sX12_init n (.inr (.inr (.inr (.inr (.inr (.inr (.inl (x0, s0, s1, s2, h)))))))) = some r → pr_F A h0 r) ∧ (∀ (x0 : Nat) (s0 : Nat) (h : pm_H), pr_F A h0 h → A x0 → A s0 → pm_iter sX12_init n (.inr (.inr (.inr (.inr (.inr (.inr (.inr (.inl (x0, s0, h))))))))) = some r → pr_F A h0 r) ∧ (∀ (x0 : Nat) (x1 : Nat) (x2 : Int32) (h : pm_H), pr_F A h0 h → A x0 → A x1 → pm_iter sX12_init n (.inr (.inr (.inr (.inr (.inr (.inr (.inr (.inr (.inl (x0, x1, x2, h)))))))))) = some r → pr_F A h0 r) ∧ (∀ (x0 : Nat) (x1 : Nat) (s0 : Nat) (s1 : Nat) (h : pm_H), pr_F A h0 h → A x0 → A x1 → A s0 → A s1 → pm_iter sX12_init n (.inr (.inr (.inr (.inr (.inr (.inr (.inr (.inr (.inr (.inl (x0, x1, s0, s1, h))))))))))) = some r → pr_F A h0 r) ∧ (∀ (x0 : Nat) (x1 : Nat) (s0 : Nat) (s1 : Nat) (h : pm_H), pr_F A h0 h → A x0 → A x1 → A s0 → A s1 → pm_iter sX12_init n (.inr (.inr (.inr (.inr (.inr (.inr (.inr (.inr (.inr (.inr (.inl (x0, x1, s0, s1, h)))))))))))) = some r → pr_F A h0 r) ∧ (∀ (x0 : Nat) (x1 : Nat) (s0 : Nat) (s1 : Nat) (h : pm_H), pr_F A h0 h → A x0 → A x1 → A s0 → A s1 → pm_iter sX12_init n (.inr (.inr (.inr (.inr (.inr (.inr (.inr (.inr (.inr (.inr (.inr (.inl (x0, x1, s0, s1, h))))))))))))) = some r → pr_F A h0 r) ∧ (∀ (x0 : Nat) (x1 : Nat) (s0 : Nat) (s1 : Nat) (h : pm_H), pr_F A h0 h → A x0 → A x1 → A s0 → A s1 → pm_iter sX12_init n (.inr (.inr (.inr (.inr (.inr (.inr (.inr (.inr (.inr (.inr (.inr (.inr (.inl (x0, x1, s0, s1, h)))))))))))))) = some r → pr_F A h0 r) ∧ (∀ (x0 : Nat) (x1 : Nat) (s0 : Nat) (s1 : Nat) (h : pm_H), pr_F A h0 h → A x0 → A x1 → A s0 → A s1 → pm_iter sX12_init n (.inr (.inr (.inr (.inr (.inr (.inr (.inr (.inr (.inr (.inr (.inr (.inr (.inr (.inl (x0, x1, s0, s1, h))))))))))))))) = some r → pr_F A h0 r) ∧ (∀ (x0 : Nat) (s0 : Nat) (s1 : Nat) (h : pm_H), pr_F A h0 h → A x0 → A s0 → A s1 → pm_iter sX12_init n (.inr (.inr (.inr (.inr (.inr (.inr (.inr (.inr (.inr (.inr (.inr (.inr (.inr (.inr (.inl (x0, s0, s1, h)))))))))))))))) = some r → pr_F A h0 r) ∧ (∀ (x0 : Nat) (s0 : Nat) (s1 : Nat) (h : pm_H), pr_F A h0 h → A x0 → A s0 → A s1 → pm_iter sX12_init n (.inr (.inr (.inr (.inr (.inr (.inr (.inr (.inr (.inr (.inr (.inr (.inr (.inr (.inr (.inr (.inl (x0, s0, s1, h))))))))))))))))) = some r → pr_F A h0 r) ∧ (∀ (s0 : Nat) (s1 : Nat) (h : pm_H), pr_F A h0 h → A s0 → A s1 → pm_iter sX12_init n (.inr (.inr (.inr (.inr (.inr (.inr (.inr (.inr (.inr (.inr (.inr (.inr (.inr (.inr (.inr (.inr (s0, s1, h))))))))))))))))) = some r → pr_F A h0 r) := by
  intro n
  induction n with
  | zero => exact ⟨fun _ _ _ _ hf => (by cases hf), fun _ _ _ _ _ _ _ _ hf => (by cases hf), fun _ _ _ _ _ _ _ _ hf => (by cases hf), fun _ _ _ _ _ _ _ _ hf => (by cases hf), fun _ _ _ _ _ _ _ _ hf => (by cases hf), fun _ _ _ _ _ _ hf => (by cases hf), fun _ _ _ _ _ _ _ _ _ _ hf => (by cases hf), fun _ _ _ _ _ _ hf => (by cases hf), fun _ _ _ _ _ _ _ hf => (by cases hf), fun _ _ _ _ _ _ _ _ _ _ hf => (by cases hf), fun _ _ _ _ _ _ _ _ _ _ hf => (by cases hf), fun _ _ _ _ _ _ _ _ _ _ hf => (by cases hf), fun _ _ _ _ _ _ _ _ _ _ hf => (by cases hf), fun _ _ _ _ _ _ _ _ _ _ hf => (by cases hf), fun _ _ _ _ _ _ _ _ hf => (by cases hf), fun _ _ _ _ _ _ _ _ hf => (by cases hf), fun _ _ _ _ _ _ hf => (by cases hf)⟩
  | succ n ih =>
    refine ⟨fun x0 h K0 Hx0 hf => ?_, ?_⟩
    · obtain ⟨y, hf, hi⟩ := pm_iter_s hf
      have hf : tX12_init_0 x0 h = some y := hf
      unfold tX12_init_0 at hf
      cases hf
      exact ih.2.1 x0 (pm_sz h) x0 (pm_new h 33 40960) (pr_new K0) Hx0 (pr_n K0) Hx0 hi
    refine ⟨fun x0 s0 s1 h K0 Hx0 Hs0 Hs1 hf => ?_, ?_⟩
    · obtain ⟨y, hf, hi⟩ := pm_iter_s hf
      have hf : tX12_init_9 x0 s0 s1 h = some y := hf
      unfold tX12_init_9 at hf
      obtain ⟨k1, hf⟩ := pm_if hf
      cases hf
      exact ih.2.2.1 x0 (pm_sz (pm_setR h s1 0 (some s0))) x0 (pm_new (pm_setR h s1 0 (some s0)) 41 16) (pr_new (pr_sR K0 Hs1 Hs0)) Hx0 (pr_n (pr_sR K0 Hs1 Hs0)) Hx0 hi
    refine ⟨fun x0 s0 s1 h K0 Hx0 Hs0 Hs1 hf => ?_, ?_⟩
    · obtain ⟨y, hf, hi⟩ := pm_iter_s hf
      have hf : tX12_init_18 x0 s0 s1 h = some y := hf
      unfold tX12_init_18 at hf
      obtain ⟨k2, hf⟩ := pm_if hf
      cases hf
      exact ih.2.2.2.1 x0 (pm_sz (pm_setR h s1 3 (some s0))) x0 (pm_new (pm_setR h s1 3 (some s0)) 34 128) (pr_new (pr_sR K0 Hs1 Hs0)) Hx0 (pr_n (pr_sR K0 Hs1 Hs0)) Hx0 hi
    refine ⟨fun x0 s0 s1 h K0 Hx0 Hs0 Hs1 hf => ?_, ?_⟩
    · obtain ⟨y, hf, hi⟩ := pm_iter_s hf
      have hf : tX12_init_27 x0 s0 s1 h = some y := hf
      unfold tX12_init_27 at hf
      obtain ⟨k3, hf⟩ := pm_if hf
      cases hf
      exact ih.2.2.2.2.1 x0 (pm_sz (pm_setR h s1 12 (some s0))) x0 (pm_new (pm_setR h s1 12 (some s0)) 35 16) (pr_new (pr_sR K0 Hs1 Hs0)) Hx0 (pr_n (pr_sR K0 Hs1 Hs0)) Hx0 hi
    refine ⟨fun x0 s0 s1 h K0 Hx0 Hs0 Hs1 hf => ?_, ?_⟩
    · obtain ⟨y, hf, hi⟩ := pm_iter_s hf
      have hf : tX12_init_35 x0 s0 s1 h = some y := hf
      unfold tX12_init_35 at hf
      obtain ⟨k4, hf⟩ := pm_if hf
      cases hf
      exact ih.2.2.2.2.2.1 x0 (pm_sz (pm_setR h s1 14 (some s0))) (pm_new (pm_setR h s1 14 (some s0)) 7 0) (pr_new (pr_sR K0 Hs1 Hs0)) Hx0 (pr_n (pr_sR K0 Hs1 Hs0)) hi
    refine ⟨fun x0 s0 h K0 Hx0 Hs0 hf => ?_, ?_⟩
    · obtain ⟨y, hf, hi⟩ := pm_iter_s hf
      have hf : tX12_init_41 x0 s0 h = some y := hf
      unfold tX12_init_41 at hf
      cases hf
      exact ih.2.2.2.2.2.2.1 x0 (pm_sz h) s0 s0 (pm_new h 33 0) (pr_new K0) Hx0 (pr_n K0) Hs0 Hs0 hi
    refine ⟨fun x0 s0 s1 s2 h K0 Hx0 Hs0 Hs1 Hs2 hf => ?_, ?_⟩
    · obtain ⟨y, hf, hi⟩ := pm_iter_s hf
      have hf : tX12_init_45 x0 s0 s1 s2 h = some y := hf
      unfold tX12_init_45 at hf
      obtain ⟨v5, e6, hf⟩ := pm_bd hf
      have K7 := rgX7_init K0 Hs1 Hs0 e6
      cases hf
      exact ih.2.2.2.2.2.2.2.1 x0 s2 v5 K7 Hx0 Hs2 hi
    refine ⟨fun x0 s0 h K0 Hx0 Hs0 hf => ?_, ?_⟩
    · obtain ⟨y, hf, hi⟩ := pm_iter_s hf
      have hf : tX12_init_48 x0 s0 h = some y := hf
      unfold tX12_init_48 at hf
      cases hf
      exact ih.2.2.2.2.2.2.2.2.1 x0 s0 0 h K0 Hx0 Hs0 hi
    refine ⟨fun x0 x1 x2 h K0 Hx0 Hx1 hf => ?_, ?_⟩
    · obtain ⟨y, hf, hi⟩ := pm_iter_s hf
      have hf : tX12_init_51 x0 x1 x2 h = some y := hf
      unfold tX12_init_51 at hf
      obtain ⟨k8, hf⟩ := pm_if hf
      obtain ⟨v9, e10, hf⟩ := pm_bd hf
      obtain ⟨k11, hf⟩ := pm_if hf
      by_cases c12 : (Int32.ofNat (pm_ln h v9)) ≤ x2
      · have hf := pm_it hf c12
        cases hf
        exact ih.2.2.2.2.2.2.2.2.2.1 x0 x1 (pm_sz h) x0 (pm_new h 9 0) (pr_new K0) Hx0 Hx1 (pr_n K0) Hx0 hi
      · have hf := pm_ie hf c12
        obtain ⟨k13, hf⟩ := pm_if hf
        obtain ⟨u14, hf⟩ := pm_if hf
        obtain ⟨y15, e16, hf⟩ := pm_lt hf
        cases hf
        exact ih.2.2.2.2.2.2.2.2.1 x0 x1 y15 (pm_setR h v9 x2.toNatClampNeg (some x1)) (pr_sR K0 (pr_c K0 Hx0 e10) Hx1) Hx0 Hx1 hi
    refine ⟨fun x0 x1 s0 s1 h K0 Hx0 Hx1 Hs0 Hs1 hf => ?_, ?_⟩
    · obtain ⟨y, hf, hi⟩ := pm_iter_s hf
      have hf : tX12_init_77 x0 x1 s0 s1 h = some y := hf
      unfold tX12_init_77 at hf
      obtain ⟨v17, e18, hf⟩ := pm_bd hf
      have K19 := rgX9_init K0 Hs0 Hx1 e18
      cases hf
      exact ih.2.2.2.2.2.2.2.2.2.2.1 x0 x1 s0 s1 v17 K19 Hx0 Hx1 Hs0 Hs1 hi
    refine ⟨fun x0 x1 s0 s1 h K0 Hx0 Hx1 Hs0 Hs1 hf => ?_, ?_⟩
    · obtain ⟨y, hf, hi⟩ := pm_iter_s hf
      have hf : tX12_init_82 x0 x1 s0 s1 h = some y := hf
      unfold tX12_init_82 at hf
      obtain ⟨k20, hf⟩ := pm_if hf
      cases hf
      exact ih.2.2.2.2.2.2.2.2.2.2.2.1 x0 x1 (pm_sz (pm_setR h s1 8 (some s0))) x0 (pm_new (pm_setR h s1 8 (some s0)) 1 0) (pr_new (pr_sR K0 Hs1 Hs0)) Hx0 Hx1 (pr_n (pr_sR K0 Hs1 Hs0)) Hx0 hi
    refine ⟨fun x0 x1 s0 s1 h K0 Hx0 Hx1 Hs0 Hs1 hf => ?_, ?_⟩
    · obtain ⟨y, hf, hi⟩ := pm_iter_s hf
      have hf : tX12_init_89 x0 x1 s0 s1 h = some y := hf
      unfold tX12_init_89 at hf
      obtain ⟨k21, hf⟩ := pm_if hf
      obtain ⟨v22, e23, hf⟩ := pm_bd hf
      obtain ⟨v24, e25, hf⟩ := pm_bd hf
      have K26 := rgX1_init K0 Hs0 (pr_c K0 Hx0 e23) Hx1 e25
      cases hf
      exact ih.2.2.2.2.2.2.2.2.2.2.2.2.1 x0 x1 s0 s1 v24 K26 Hx0 Hx1 Hs0 Hs1 hi
    refine ⟨fun x0 x1 s0 s1 h K0 Hx0 Hx1 Hs0 Hs1 hf => ?_, ?_⟩
    · obtain ⟨y, hf, hi⟩ := pm_iter_s hf
      have hf : tX12_init_98 x0 x1 s0 s1 h = some y := hf
      unfold tX12_init_98 at hf
      obtain ⟨k27, hf⟩ := pm_if hf
      cases hf
      exact ih.2.2.2.2.2.2.2.2.2.2.2.2.2.1 x0 x1 (pm_sz (pm_setR h s1 9 (some s0))) x0 (pm_new (pm_setR h s1 9 (some s0)) 10 0) (pr_new (pr_sR K0 Hs1 Hs0)) Hx0 Hx1 (pr_n (pr_sR K0 Hs1 Hs0)) Hx0 hi
    refine ⟨fun x0 x1 s0 s1 h K0 Hx0 Hx1 Hs0 Hs1 hf => ?_, ?_⟩
    · obtain ⟨y, hf, hi⟩ := pm_iter_s hf
      have hf : tX12_init_105 x0 x1 s0 s1 h = some y := hf
      unfold tX12_init_105 at hf
      obtain ⟨k28, hf⟩ := pm_if hf
      obtain ⟨v29, e30, hf⟩ := pm_bd hf
      obtain ⟨v31, e32, hf⟩ := pm_bd hf
      have K33 := rgX10_init K0 Hs0 (pr_c K0 Hx0 e30) Hx1 e32
      cases hf
      exact ih.2.2.2.2.2.2.2.2.2.2.2.2.2.2.1 x0 s0 s1 v31 K33 Hx0 Hs0 Hs1 hi
    refine ⟨fun x0 s0 s1 h K0 Hx0 Hs0 Hs1 hf => ?_, ?_⟩
    · obtain ⟨y, hf, hi⟩ := pm_iter_s hf
      have hf : tX12_init_114 x0 s0 s1 h = some y := hf
      unfold tX12_init_114 at hf
      obtain ⟨k34, hf⟩ := pm_if hf
      cases hf
      exact ih.2.2.2.2.2.2.2.2.2.2.2.2.2.2.2.1 x0 (pm_sz (pm_setR h s1 10 (some s0))) x0 (pm_new (pm_setR h s1 10 (some s0)) 5 0) (pr_new (pr_sR K0 Hs1 Hs0)) Hx0 (pr_n (pr_sR K0 Hs1 Hs0)) Hx0 hi
    refine ⟨fun x0 s0 s1 h K0 Hx0 Hs0 Hs1 hf => ?_, ?_⟩
    · obtain ⟨y, hf, hi⟩ := pm_iter_s hf
      have hf : tX12_init_121 x0 s0 s1 h = some y := hf
      unfold tX12_init_121 at hf
      obtain ⟨k35, hf⟩ := pm_if hf
      obtain ⟨v36, e37, hf⟩ := pm_bd hf
      obtain ⟨v38, e39, hf⟩ := pm_bd hf
      have K40 := rgX5_init K0 Hs0 (pr_c K0 Hx0 e37) e39
      cases hf
      exact ih.2.2.2.2.2.2.2.2.2.2.2.2.2.2.2.2 s0 s1 v38 K40 Hs0 Hs1 hi
    refine fun s0 s1 h K0 Hs0 Hs1 hf => ?_
    obtain ⟨y, hf, hi⟩ := pm_iter_s hf
    have hf : tX12_init_129 s0 s1 h = some y := hf
    unfold tX12_init_129 at hf
    obtain ⟨k41, hf⟩ := pm_if hf
    have hf := Option.some.inj hf
    subst hf
    have hi := Option.some.inj (show some _ = some r from hi)
    subst hi
    exact (pr_sR K0 Hs1 Hs0)
set_option maxHeartbeats 4000000 in
set_option maxRecDepth 100000 in
theorem rgX12_init {A : Nat → Prop} {h0 h : pm_H} (K0 : pr_F A h0 h) {a0 : Nat} (Ha0 : A a0) {r : pm_H} (hf : fX12_init h a0 = some r) : pr_F A h0 r := by
  unfold fX12_init at hf
  obtain ⟨n, hn⟩ := pm_lim_iter hf
  exact (rlX12_init n).1 a0 h K0 Ha0 hn
set_option maxHeartbeats 4000000 in
set_option maxRecDepth 100000 in
theorem rlX6_save {A : Nat → Prop} {h0 : pm_H} {r : pm_H} : ∀ n : Nat, (∀ (x0 : Nat) (x1 : Int32) (x3 : Int64) (x5 : Int64) (x7 : Int32) (x8 : Int32) (h : pm_H), pr_F A h0 h → A x0 → pm_iter sX6_save n (x0, x1, x3, x5, x7, x8, h) = some r → pr_F A h0 r) := by
  intro n
  induction n with
  | zero => exact fun _ _ _ _ _ _ _ _ _ hf => (by cases hf)
  | succ n ih =>
    refine fun x0 x1 x3 x5 x7 x8 h K0 Hx0 hf => ?_
    obtain ⟨y, hf, hi⟩ := pm_iter_s hf
    have hf : tX6_save_11 x0 x1 x3 x5 x7 x8 h = some y := hf
    unfold tX6_save_11 at hf
    by_cases c5 : x7 ≤ x8
    · have hf := pm_it hf c5
      cases hf
      cases hi
      exact K0
    · have hf := pm_ie hf c5
      obtain ⟨k6, hf⟩ := pm_if hf
      obtain ⟨v7, e8, hf⟩ := pm_bd hf
      have K9 := rgX6_setByte K0 Hx0 e8
      obtain ⟨y10, e11, hf⟩ := pm_lt hf
      cases hf
      exact ih x0 x1 x3 x5 x7 y10 v7 K9 Hx0 hi
set_option maxHeartbeats 4000000 in
set_option maxRecDepth 100000 in
theorem rgX6_save {A : Nat → Prop} {h0 h : pm_H} (K0 : pr_F A h0 h) {a0 : Nat} {p1 : Int32} {p2 : Int32} {p3 : Int64} {p4 : Int64} (Ha0 : A a0) {r : pm_H} (hf : fX6_save h a0 p1 p2 p3 p4 = some r) : pr_F A h0 r := by
  unfold fX6_save at hf
  obtain ⟨v1, e2, hf⟩ := pm_bd hf
  obtain ⟨y3, e4, hf⟩ := pm_lt hf
  obtain ⟨n, hn⟩ := pm_lim_iter hf
  exact (rlX6_save n) a0 p1 p3 p4 y3 0 h K0 Ha0 hn
set_option maxHeartbeats 4000000 in
set_option maxRecDepth 100000 in
theorem rgX8_toWhole {A : Nat → Prop} {h0 h : pm_H} (K0 : pr_F A h0 h) {a0 : Nat} {p1 : Int32} {p2 : Int64} (Ha0 : A a0) {r : (Int64 × pm_H)} (hf : fX8_toWhole h a0 p1 p2 = some r) : pr_F A h0 r.2 := by
  unfold fX8_toWhole at hf
  by_cases c1 : p1 = 167
  · have hf := pm_it hf c1
    cases hf
    exact K0
  have hf := pm_ie hf c1
  by_cases c2 : p1 = 168
  · have hf := pm_it hf c2
    obtain ⟨v3, e4, hf⟩ := pm_bd hf
    obtain ⟨v5, e6, hf⟩ := pm_bd hf
    by_cases c7 : v5 = 0
    · have hf := pm_it hf c7
      obtain ⟨k8, hf⟩ := pm_if hf
      obtain ⟨v9, e10, hf⟩ := pm_bd hf
      have K11 := rgX8_truncated K0 Ha0 e10
      cases hf
      exact K11
    · have hf := pm_ie hf c7
      obtain ⟨k12, hf⟩ := pm_if hf
      obtain ⟨v13, e14, hf⟩ := pm_bd hf
      have K15 := rgX8_truncated K0 Ha0 e14
      cases hf
      exact K15
  have hf := pm_ie hf c2
  by_cases c16 : p1 = 169
  · have hf := pm_it hf c16
    obtain ⟨v17, e18, hf⟩ := pm_bd hf
    obtain ⟨v19, e20, hf⟩ := pm_bd hf
    by_cases c21 : v19 = 0
    · have hf := pm_it hf c21
      obtain ⟨k22, hf⟩ := pm_if hf
      obtain ⟨v23, e24, hf⟩ := pm_bd hf
      have K25 := rgX8_truncated K0 Ha0 e24
      cases hf
      exact K25
    · have hf := pm_ie hf c21
      obtain ⟨k26, hf⟩ := pm_if hf
      obtain ⟨v27, e28, hf⟩ := pm_bd hf
      have K29 := rgX8_truncated K0 Ha0 e28
      cases hf
      exact K29
  have hf := pm_ie hf c16
  by_cases c30 : p1 = 170
  · have hf := pm_it hf c30
    obtain ⟨v31, e32, hf⟩ := pm_bd hf
    obtain ⟨v33, e34, hf⟩ := pm_bd hf
    by_cases c35 : v33 = 0
    · have hf := pm_it hf c35
      obtain ⟨k36, hf⟩ := pm_if hf
      obtain ⟨v37, e38, hf⟩ := pm_bd hf
      have K39 := rgX8_truncated K0 Ha0 e38
      cases hf
      exact K39
    · have hf := pm_ie hf c35
      obtain ⟨k40, hf⟩ := pm_if hf
      obtain ⟨v41, e42, hf⟩ := pm_bd hf
      have K43 := rgX8_truncated K0 Ha0 e42
      cases hf
      exact K43
  have hf := pm_ie hf c30
  by_cases c44 : p1 = 171
  · have hf := pm_it hf c44
    obtain ⟨v45, e46, hf⟩ := pm_bd hf
    obtain ⟨v47, e48, hf⟩ := pm_bd hf
    by_cases c49 : v47 = 0
    · have hf := pm_it hf c49
      obtain ⟨k50, hf⟩ := pm_if hf
      obtain ⟨v51, e52, hf⟩ := pm_bd hf
      have K53 := rgX8_truncated K0 Ha0 e52
      cases hf
      exact K53
    · have hf := pm_ie hf c49
      obtain ⟨k54, hf⟩ := pm_if hf
      obtain ⟨v55, e56, hf⟩ := pm_bd hf
      have K57 := rgX8_truncated K0 Ha0 e56
      cases hf
      exact K57
  have hf := pm_ie hf c44
  by_cases c58 : p1 = 172
  · have hf := pm_it hf c58
    cases hf
    exact K0
  have hf := pm_ie hf c58
  by_cases c59 : p1 = 173
  · have hf := pm_it hf c59
    cases hf
    exact K0
  have hf := pm_ie hf c59
  by_cases c60 : p1 = 174
  · have hf := pm_it hf c60
    obtain ⟨v61, e62, hf⟩ := pm_bd hf
    obtain ⟨v63, e64, hf⟩ := pm_bd hf
    by_cases c65 : v63 = 0
    · have hf := pm_it hf c65
      obtain ⟨k66, hf⟩ := pm_if hf
      obtain ⟨v67, e68, hf⟩ := pm_bd hf
      have K69 := rgX8_truncated K0 Ha0 e68
      cases hf
      exact K69
    · have hf := pm_ie hf c65
      obtain ⟨k70, hf⟩ := pm_if hf
      obtain ⟨v71, e72, hf⟩ := pm_bd hf
      have K73 := rgX8_truncated K0 Ha0 e72
      cases hf
      exact K73
  have hf := pm_ie hf c60
  by_cases c74 : p1 = 175
  · have hf := pm_it hf c74
    obtain ⟨v75, e76, hf⟩ := pm_bd hf
    obtain ⟨v77, e78, hf⟩ := pm_bd hf
    by_cases c79 : v77 = 0
    · have hf := pm_it hf c79
      obtain ⟨k80, hf⟩ := pm_if hf
      obtain ⟨v81, e82, hf⟩ := pm_bd hf
      have K83 := rgX8_truncated K0 Ha0 e82
      cases hf
      exact K83
    · have hf := pm_ie hf c79
      obtain ⟨k84, hf⟩ := pm_if hf
      obtain ⟨v85, e86, hf⟩ := pm_bd hf
      have K87 := rgX8_truncated K0 Ha0 e86
      cases hf
      exact K87
  have hf := pm_ie hf c74
  by_cases c88 : p1 = 176
  · have hf := pm_it hf c88
    obtain ⟨v89, e90, hf⟩ := pm_bd hf
    obtain ⟨v91, e92, hf⟩ := pm_bd hf
    by_cases c93 : v91 = 0
    · have hf := pm_it hf c93
      obtain ⟨k94, hf⟩ := pm_if hf
      obtain ⟨v95, e96, hf⟩ := pm_bd hf
      have K97 := rgX8_truncated K0 Ha0 e96
      cases hf
      exact K97
    · have hf := pm_ie hf c93
      obtain ⟨k98, hf⟩ := pm_if hf
      obtain ⟨v99, e100, hf⟩ := pm_bd hf
      have K101 := rgX8_truncated K0 Ha0 e100
      cases hf
      exact K101
  have hf := pm_ie hf c88
  by_cases c102 : p1 = 177
  · have hf := pm_it hf c102
    obtain ⟨v103, e104, hf⟩ := pm_bd hf
    obtain ⟨v105, e106, hf⟩ := pm_bd hf
    by_cases c107 : v105 = 0
    · have hf := pm_it hf c107
      obtain ⟨k108, hf⟩ := pm_if hf
      obtain ⟨v109, e110, hf⟩ := pm_bd hf
      have K111 := rgX8_truncated K0 Ha0 e110
      cases hf
      exact K111
    · have hf := pm_ie hf c107
      obtain ⟨k112, hf⟩ := pm_if hf
      obtain ⟨v113, e114, hf⟩ := pm_bd hf
      have K115 := rgX8_truncated K0 Ha0 e114
      cases hf
      exact K115
  have hf := pm_ie hf c102
  by_cases c116 : p1 = 178
  · have hf := pm_it hf c116
    obtain ⟨v117, e118, hf⟩ := pm_bd hf
    obtain ⟨v119, e120, hf⟩ := pm_bd hf
    by_cases c121 : v119 = 0
    · have hf := pm_it hf c121
      obtain ⟨k122, hf⟩ := pm_if hf
      obtain ⟨v123, e124, hf⟩ := pm_bd hf
      have K125 := rgX8_truncated K0 Ha0 e124
      cases hf
      exact K125
    · have hf := pm_ie hf c121
      obtain ⟨k126, hf⟩ := pm_if hf
      obtain ⟨v127, e128, hf⟩ := pm_bd hf
      have K129 := rgX8_truncated K0 Ha0 e128
      cases hf
      exact K129
  have hf := pm_ie hf c116
  by_cases c130 : p1 = 179
  · have hf := pm_it hf c130
    obtain ⟨v131, e132, hf⟩ := pm_bd hf
    obtain ⟨v133, e134, hf⟩ := pm_bd hf
    by_cases c135 : v133 = 0
    · have hf := pm_it hf c135
      obtain ⟨k136, hf⟩ := pm_if hf
      obtain ⟨v137, e138, hf⟩ := pm_bd hf
      have K139 := rgX8_truncated K0 Ha0 e138
      cases hf
      exact K139
    · have hf := pm_ie hf c135
      obtain ⟨k140, hf⟩ := pm_if hf
      obtain ⟨v141, e142, hf⟩ := pm_bd hf
      have K143 := rgX8_truncated K0 Ha0 e142
      cases hf
      exact K143
  have hf := pm_ie hf c130
  by_cases c144 : p1 = 180
  · have hf := pm_it hf c144
    obtain ⟨v145, e146, hf⟩ := pm_bd hf
    obtain ⟨v147, e148, hf⟩ := pm_bd hf
    by_cases c149 : v147 = 0
    · have hf := pm_it hf c149
      obtain ⟨k150, hf⟩ := pm_if hf
      obtain ⟨v151, e152, hf⟩ := pm_bd hf
      have K153 := rgX8_truncated K0 Ha0 e152
      cases hf
      exact K153
    · have hf := pm_ie hf c149
      obtain ⟨k154, hf⟩ := pm_if hf
      obtain ⟨v155, e156, hf⟩ := pm_bd hf
      have K157 := rgX8_truncated K0 Ha0 e156
      cases hf
      exact K157
  have hf := pm_ie hf c144
  by_cases c158 : p1 = 181
  · have hf := pm_it hf c158
    obtain ⟨v159, e160, hf⟩ := pm_bd hf
    obtain ⟨v161, e162, hf⟩ := pm_bd hf
    by_cases c163 : v161 = 0
    · have hf := pm_it hf c163
      obtain ⟨k164, hf⟩ := pm_if hf
      obtain ⟨v165, e166, hf⟩ := pm_bd hf
      have K167 := rgX8_truncated K0 Ha0 e166
      cases hf
      exact K167
    · have hf := pm_ie hf c163
      obtain ⟨k168, hf⟩ := pm_if hf
      obtain ⟨v169, e170, hf⟩ := pm_bd hf
      have K171 := rgX8_truncated K0 Ha0 e170
      cases hf
      exact K171
  have hf := pm_ie hf c158
  by_cases c172 : p1 = 182
  · have hf := pm_it hf c172
    obtain ⟨v173, e174, hf⟩ := pm_bd hf
    obtain ⟨v175, e176, hf⟩ := pm_bd hf
    by_cases c177 : v175 = 0
    · have hf := pm_it hf c177
      obtain ⟨k178, hf⟩ := pm_if hf
      obtain ⟨v179, e180, hf⟩ := pm_bd hf
      have K181 := rgX8_truncated K0 Ha0 e180
      cases hf
      exact K181
    · have hf := pm_ie hf c177
      obtain ⟨k182, hf⟩ := pm_if hf
      obtain ⟨v183, e184, hf⟩ := pm_bd hf
      have K185 := rgX8_truncated K0 Ha0 e184
      cases hf
      exact K185
  have hf := pm_ie hf c172
  by_cases c186 : p1 = 183
  · have hf := pm_it hf c186
    obtain ⟨v187, e188, hf⟩ := pm_bd hf
    obtain ⟨v189, e190, hf⟩ := pm_bd hf
    by_cases c191 : v189 = 0
    · have hf := pm_it hf c191
      obtain ⟨k192, hf⟩ := pm_if hf
      obtain ⟨v193, e194, hf⟩ := pm_bd hf
      have K195 := rgX8_truncated K0 Ha0 e194
      cases hf
      exact K195
    · have hf := pm_ie hf c191
      obtain ⟨k196, hf⟩ := pm_if hf
      obtain ⟨v197, e198, hf⟩ := pm_bd hf
      have K199 := rgX8_truncated K0 Ha0 e198
      cases hf
      exact K199
  have hf := pm_ie hf c186
  by_cases c200 : p1 = 184
  · have hf := pm_it hf c200
    obtain ⟨v201, e202, hf⟩ := pm_bd hf
    obtain ⟨v203, e204, hf⟩ := pm_bd hf
    by_cases c205 : v203 = 0
    · have hf := pm_it hf c205
      obtain ⟨k206, hf⟩ := pm_if hf
      obtain ⟨v207, e208, hf⟩ := pm_bd hf
      have K209 := rgX8_truncated K0 Ha0 e208
      cases hf
      exact K209
    · have hf := pm_ie hf c205
      obtain ⟨k210, hf⟩ := pm_if hf
      obtain ⟨v211, e212, hf⟩ := pm_bd hf
      have K213 := rgX8_truncated K0 Ha0 e212
      cases hf
      exact K213
  have hf := pm_ie hf c200
  by_cases c214 : p1 = 185
  · have hf := pm_it hf c214
    obtain ⟨v215, e216, hf⟩ := pm_bd hf
    obtain ⟨v217, e218, hf⟩ := pm_bd hf
    by_cases c219 : v217 = 0
    · have hf := pm_it hf c219
      obtain ⟨k220, hf⟩ := pm_if hf
      obtain ⟨v221, e222, hf⟩ := pm_bd hf
      have K223 := rgX8_truncated K0 Ha0 e222
      cases hf
      exact K223
    · have hf := pm_ie hf c219
      obtain ⟨k224, hf⟩ := pm_if hf
      obtain ⟨v225, e226, hf⟩ := pm_bd hf
      have K227 := rgX8_truncated K0 Ha0 e226
      cases hf
      exact K227
  have hf := pm_ie hf c214
  by_cases c228 : p1 = 186
  · have hf := pm_it hf c228
    obtain ⟨v229, e230, hf⟩ := pm_bd hf
    obtain ⟨v231, e232, hf⟩ := pm_bd hf
    by_cases c233 : v231 = 0
    · have hf := pm_it hf c233
      obtain ⟨k234, hf⟩ := pm_if hf
      obtain ⟨v235, e236, hf⟩ := pm_bd hf
      have K237 := rgX8_truncated K0 Ha0 e236
      cases hf
      exact K237
    · have hf := pm_ie hf c233
      obtain ⟨k238, hf⟩ := pm_if hf
      obtain ⟨v239, e240, hf⟩ := pm_bd hf
      have K241 := rgX8_truncated K0 Ha0 e240
      cases hf
      exact K241
  have hf := pm_ie hf c228
  by_cases c242 : p1 = 187
  · have hf := pm_it hf c242
    obtain ⟨v243, e244, hf⟩ := pm_bd hf
    obtain ⟨v245, e246, hf⟩ := pm_bd hf
    by_cases c247 : v245 = 0
    · have hf := pm_it hf c247
      obtain ⟨k248, hf⟩ := pm_if hf
      obtain ⟨v249, e250, hf⟩ := pm_bd hf
      have K251 := rgX8_truncated K0 Ha0 e250
      cases hf
      exact K251
    · have hf := pm_ie hf c247
      obtain ⟨k252, hf⟩ := pm_if hf
      obtain ⟨v253, e254, hf⟩ := pm_bd hf
      have K255 := rgX8_truncated K0 Ha0 e254
      cases hf
      exact K255
  have hf := pm_ie hf c242
  by_cases c256 : p1 = 188
  · have hf := pm_it hf c256
    obtain ⟨v257, e258, hf⟩ := pm_bd hf
    obtain ⟨v259, e260, hf⟩ := pm_bd hf
    by_cases c261 : v259 = 0
    · have hf := pm_it hf c261
      obtain ⟨k262, hf⟩ := pm_if hf
      obtain ⟨v263, e264, hf⟩ := pm_bd hf
      have K265 := rgX8_truncated K0 Ha0 e264
      cases hf
      exact K265
    · have hf := pm_ie hf c261
      obtain ⟨k266, hf⟩ := pm_if hf
      obtain ⟨v267, e268, hf⟩ := pm_bd hf
      have K269 := rgX8_truncated K0 Ha0 e268
      cases hf
      exact K269
  have hf := pm_ie hf c256
  by_cases c270 : p1 = 189
  · have hf := pm_it hf c270
    obtain ⟨v271, e272, hf⟩ := pm_bd hf
    obtain ⟨v273, e274, hf⟩ := pm_bd hf
    by_cases c275 : v273 = 0
    · have hf := pm_it hf c275
      obtain ⟨k276, hf⟩ := pm_if hf
      obtain ⟨v277, e278, hf⟩ := pm_bd hf
      have K279 := rgX8_truncated K0 Ha0 e278
      cases hf
      exact K279
    · have hf := pm_ie hf c275
      obtain ⟨k280, hf⟩ := pm_if hf
      obtain ⟨v281, e282, hf⟩ := pm_bd hf
      have K283 := rgX8_truncated K0 Ha0 e282
      cases hf
      exact K283
  have hf := pm_ie hf c270
  by_cases c284 : p1 = 190
  · have hf := pm_it hf c284
    obtain ⟨v285, e286, hf⟩ := pm_bd hf
    obtain ⟨v287, e288, hf⟩ := pm_bd hf
    by_cases c289 : v287 = 0
    · have hf := pm_it hf c289
      obtain ⟨k290, hf⟩ := pm_if hf
      obtain ⟨v291, e292, hf⟩ := pm_bd hf
      have K293 := rgX8_truncated K0 Ha0 e292
      cases hf
      exact K293
    · have hf := pm_ie hf c289
      obtain ⟨k294, hf⟩ := pm_if hf
      obtain ⟨v295, e296, hf⟩ := pm_bd hf
      have K297 := rgX8_truncated K0 Ha0 e296
      cases hf
      exact K297
  have hf := pm_ie hf c284
  by_cases c298 : p1 = 191
  · have hf := pm_it hf c298
    obtain ⟨v299, e300, hf⟩ := pm_bd hf
    obtain ⟨v301, e302, hf⟩ := pm_bd hf
    by_cases c303 : v301 = 0
    · have hf := pm_it hf c303
      obtain ⟨k304, hf⟩ := pm_if hf
      obtain ⟨v305, e306, hf⟩ := pm_bd hf
      have K307 := rgX8_truncated K0 Ha0 e306
      cases hf
      exact K307
    · have hf := pm_ie hf c303
      obtain ⟨k308, hf⟩ := pm_if hf
      obtain ⟨v309, e310, hf⟩ := pm_bd hf
      have K311 := rgX8_truncated K0 Ha0 e310
      cases hf
      exact K311
  have hf := pm_ie hf c298
  by_cases c312 : p1 = 192
  · have hf := pm_it hf c312
    cases hf
    exact K0
  have hf := pm_ie hf c312
  by_cases c313 : p1 = 193
  · have hf := pm_it hf c313
    cases hf
    exact K0
  have hf := pm_ie hf c313
  by_cases c314 : p1 = 194
  · have hf := pm_it hf c314
    cases hf
    exact K0
  have hf := pm_ie hf c314
  by_cases c315 : p1 = 195
  · have hf := pm_it hf c315
    cases hf
    exact K0
  have hf := pm_ie hf c315
  by_cases c316 : p1 = 196
  · have hf := pm_it hf c316
    cases hf
    exact K0
  have hf := pm_ie hf c316
  obtain ⟨v317, e318, hf⟩ := pm_bd hf
  obtain ⟨v319, e320, hf⟩ := pm_bd hf
  by_cases c321 : v319 = 0
  · have hf := pm_it hf c321
    obtain ⟨k322, hf⟩ := pm_if hf
    obtain ⟨v323, e324, hf⟩ := pm_bd hf
    have K325 := rgX8_truncated K0 Ha0 e324
    cases hf
    exact K325
  · have hf := pm_ie hf c321
    obtain ⟨k326, hf⟩ := pm_if hf
    obtain ⟨v327, e328, hf⟩ := pm_bd hf
    have K329 := rgX8_truncated K0 Ha0 e328
    cases hf
    exact K329
set_option maxHeartbeats 4000000 in
set_option maxRecDepth 100000 in
theorem rlX9_begin {A : Nat → Prop} {h0 : pm_H} {r : pm_H} : ∀ n : Nat, (∀ (x0 : Nat) (x2 : Int32) (h : pm_H), pr_F A h0 h → A x0 → pm_iter sX9_begin n (x0, x2, h) = some r → pr_F A h0 r) := by
  intro n
  induction n with
  | zero => exact fun _ _ _ _ _ hf => (by cases hf)
  | succ n ih =>
    refine fun x0 x2 h K0 Hx0 hf => ?_
    obtain ⟨y, hf, hi⟩ := pm_iter_s hf
    have hf : tX9_begin_23 x0 x2 h = some y := hf
    unfold tX9_begin_23 at hf
    by_cases c6 : 8 ≤ x2
    · have hf := pm_it hf c6
      cases hf
      cases hi
      exact K0
    · have hf := pm_ie hf c6
      obtain ⟨k7, hf⟩ := pm_if hf
      by_cases c8 : (pm_I h x0 3) = 0
      · have hf := pm_it hf c8
        obtain ⟨v9, e10, hf⟩ := pm_bd hf
        have K11 := rgX9_next K0 Hx0 e10
        obtain ⟨u12, hf⟩ := pm_if hf
        by_cases c13 : v9.1 = (pm_beg.getD x2.toNatClampNeg 0)
        · have hf := pm_it hf c13
          obtain ⟨y14, e15, hf⟩ := pm_lt hf
          cases hf
          exact ih x0 y14 v9.2 K11 Hx0 hi
        · have hf := pm_ie hf c13
          obtain ⟨k16, hf⟩ := pm_if hf
          obtain ⟨v17, e18, hf⟩ := pm_bd hf
          have K19 := rgX9_fail K11 Hx0 e18
          obtain ⟨y20, e21, hf⟩ := pm_lt hf
          cases hf
          exact ih x0 y20 v17 K19 Hx0 hi
      · have hf := pm_ie hf c8
        cases hf
        cases hi
        exact K0
set_option maxHeartbeats 4000000 in
set_option maxRecDepth 100000 in
theorem rgX9_begin {A : Nat → Prop} {h0 h : pm_H} (K0 : pr_F A h0 h) {a0 : Nat} {p1 : Nat} (Ha0 : A a0) (Hp1 : A p1) {r : pm_H} (hf : fX9_begin h a0 p1 = some r) : pr_F A h0 r := by
  unfold fX9_begin at hf
  obtain ⟨k1, hf⟩ := pm_if hf
  obtain ⟨v2, e3, hf⟩ := pm_bd hf
  have K4 := rgX9_open K0 Ha0 Hp1 e3
  obtain ⟨k5, hf⟩ := pm_if hf
  obtain ⟨n, hn⟩ := pm_lim_iter hf
  exact (rlX9_begin n) a0 0 (pm_setI (pm_setI (pm_setI v2 a0 5 (-1)) a0 12 0) a0 10 (-1)) (pr_sI (pr_sI (pr_sI K4 Ha0) Ha0) Ha0) Ha0 hn
set_option maxHeartbeats 4000000 in
set_option maxRecDepth 100000 in
theorem rgX1_memoryAccess_b27 {A : Nat → Prop} {h0 h : pm_H} (K0 : pr_F A h0 h) {x0 : Nat} {x1 : Int32} {s0 : Int32} (Hx0 : A x0) {r : pm_H} (hf : fX1_memoryAccess_b27 h x0 x1 s0 = some r) : pr_F A h0 r := by
  unfold fX1_memoryAccess_b27 at hf
  obtain ⟨k9, hf⟩ := pm_if hf
  obtain ⟨v10, e11, hf⟩ := pm_bd hf
  obtain ⟨k12, hf⟩ := pm_if hf
  obtain ⟨v13, e14, hf⟩ := pm_bd hf
  by_cases c15 : v13 = 0
  · have hf := pm_it hf c15
    obtain ⟨v16, e17, hf⟩ := pm_bd hf
    have K18 := rgX1_fail K0 Hx0 e17
    cases hf
    exact K18
  · have hf := pm_ie hf c15
    by_cases c19 : s0 = 0
    · have hf := pm_it hf c19
      obtain ⟨v20, e21, hf⟩ := pm_bd hf
      have K22 := rgX1_fail K0 Hx0 e21
      cases hf
      exact K22
    · have hf := pm_ie hf c19
      by_cases c23 : x1 = 63
      · have hf := pm_it hf c23
        obtain ⟨v24, e25, hf⟩ := pm_bd hf
        have K26 := rgX1_plain K0 Hx0 e25
        cases hf
        exact K26
      · have hf := pm_ie hf c23
        by_cases c27 : x1 = 64
        · have hf := pm_it hf c27
          obtain ⟨v28, e29, hf⟩ := pm_bd hf
          have K30 := rgX1_plain K0 Hx0 e29
          cases hf
          exact K30
        · have hf := pm_ie hf c27
          by_cases c31 : 54 ≤ x1
          · have hf := pm_it hf c31
            obtain ⟨v32, e33, hf⟩ := pm_bd hf
            obtain ⟨v34, e35, hf⟩ := pm_bd hf
            have K36 := rgX1_plain K0 Hx0 e35
            cases hf
            exact K36
          · have hf := pm_ie hf c31
            obtain ⟨v37, e38, hf⟩ := pm_bd hf
            obtain ⟨v39, e40, hf⟩ := pm_bd hf
            have K41 := rgX1_plain K0 Hx0 e40
            cases hf
            exact K41
set_option maxHeartbeats 4000000 in
set_option maxRecDepth 100000 in
theorem rgX1_memoryAccess_b22 {A : Nat → Prop} {h0 h : pm_H} (K0 : pr_F A h0 h) {x0 : Nat} {x1 : Int32} (Hx0 : A x0) {r : pm_H} (hf : fX1_memoryAccess_b22 h x0 x1 = some r) : pr_F A h0 r := by
  unfold fX1_memoryAccess_b22 at hf
  exact rgX1_memoryAccess_b27 K0 Hx0 hf
set_option maxHeartbeats 4000000 in
set_option maxRecDepth 100000 in
theorem rgX1_memoryAccess {A : Nat → Prop} {h0 h : pm_H} (K0 : pr_F A h0 h) {a0 : Nat} {p1 : Int32} (Ha0 : A a0) {r : pm_H} (hf : fX1_memoryAccess h a0 p1 = some r) : pr_F A h0 r := by
  unfold fX1_memoryAccess at hf
  by_cases c1 : 63 ≤ p1
  · have hf := pm_it hf c1
    exact rgX1_memoryAccess_b22 K0 Ha0 hf
  · have hf := pm_ie hf c1
    obtain ⟨k2, hf⟩ := pm_if hf
    obtain ⟨v3, e4, hf⟩ := pm_bd hf
    obtain ⟨k5, hf⟩ := pm_if hf
    obtain ⟨v6, e7, hf⟩ := pm_bd hf
    by_cases c8 : v6.toInt64 < (pm_L h v3 8)
    · have hf := pm_it hf c8
      exact rgX1_memoryAccess_b27 K0 Ha0 hf
    · have hf := pm_ie hf c8
      exact rgX1_memoryAccess_b22 K0 Ha0 hf
set_option maxHeartbeats 4000000 in
set_option maxRecDepth 100000 in
theorem rgX1_operator {A : Nat → Prop} {h0 h : pm_H} (K0 : pr_F A h0 h) {a0 : Nat} {p1 : Int32} (Ha0 : A a0) {r : pm_H} (hf : fX1_operator h a0 p1 = some r) : pr_F A h0 r := by
  unfold fX1_operator at hf
  obtain ⟨v1, e2, hf⟩ := pm_bd hf
  obtain ⟨y3, e4, hf⟩ := pm_lt hf
  obtain ⟨v5, e6, hf⟩ := pm_lt hf
  by_cases c7 : v5 = 0
  · have hf := pm_it hf c7
    obtain ⟨v8, e9, hf⟩ := pm_bd hf
    obtain ⟨k10, hf⟩ := pm_if hf
    obtain ⟨v11, e12, hf⟩ := pm_bd hf
    have K13 := rgX1_plain K0 Ha0 e12
    cases hf
    exact K13
  · have hf := pm_ie hf c7
    obtain ⟨v14, e15, hf⟩ := pm_bd hf
    obtain ⟨k16, hf⟩ := pm_if hf
    obtain ⟨v17, e18, hf⟩ := pm_bd hf
    have K19 := rgX1_plain K0 Ha0 e18
    cases hf
    exact K19
set_option maxHeartbeats 4000000 in
set_option maxRecDepth 100000 in
theorem rgX1_other_b124 {A : Nat → Prop} {h0 h : pm_H} (K0 : pr_F A h0 h) {x0 : Nat} {x1 : Int32} (Hx0 : A x0) {r : pm_H} (hf : fX1_other_b124 h x0 x1 = some r) : pr_F A h0 r := by
  unfold fX1_other_b124 at hf
  by_cases c38 : x1 = 37
  · have hf := pm_it hf c38
    obtain ⟨k39, hf⟩ := pm_if hf
    obtain ⟨v40, e41, hf⟩ := pm_bd hf
    have K42 := rgX1_tableAccess K0 Hx0 e41
    cases hf
    exact K42
  · have hf := pm_ie hf c38
    by_cases c43 : x1 = 38
    · have hf := pm_it hf c43
      obtain ⟨k44, hf⟩ := pm_if hf
      obtain ⟨v45, e46, hf⟩ := pm_bd hf
      have K47 := rgX1_tableAccess K0 Hx0 e46
      cases hf
      exact K47
    · have hf := pm_ie hf c43
      by_cases c48 : x1 < 312
      · have hf := pm_it hf c48
        obtain ⟨k49, hf⟩ := pm_if hf
        obtain ⟨v50, e51, hf⟩ := pm_bd hf
        have K52 := rgX1_stretch K0 Hx0 e51
        cases hf
        exact K52
      · have hf := pm_ie hf c48
        obtain ⟨k53, hf⟩ := pm_if hf
        obtain ⟨v54, e55, hf⟩ := pm_bd hf
        have K56 := rgX1_tableAccess K0 Hx0 e55
        cases hf
        exact K56
set_option maxHeartbeats 4000000 in
set_option maxRecDepth 100000 in
theorem rgX1_other_b102 {A : Nat → Prop} {h0 h : pm_H} (K0 : pr_F A h0 h) {x0 : Nat} {x1 : Int32} (Hx0 : A x0) {r : pm_H} (hf : fX1_other_b102 h x0 x1 = some r) : pr_F A h0 r := by
  unfold fX1_other_b102 at hf
  by_cases c32 : x1 < 208
  · have hf := pm_it hf c32
    exact rgX1_other_b124 K0 Hx0 hf
  · have hf := pm_ie hf c32
    by_cases c33 : 210 < x1
    · have hf := pm_it hf c33
      exact rgX1_other_b124 K0 Hx0 hf
    · have hf := pm_ie hf c33
      obtain ⟨k34, hf⟩ := pm_if hf
      obtain ⟨v35, e36, hf⟩ := pm_bd hf
      have K37 := rgX1_reference K0 Hx0 e36
      cases hf
      exact K37
set_option maxHeartbeats 4000000 in
set_option maxRecDepth 100000 in
theorem rgX1_other_b69 {A : Nat → Prop} {h0 h : pm_H} (K0 : pr_F A h0 h) {x0 : Nat} {x1 : Int32} (Hx0 : A x0) {r : pm_H} (hf : fX1_other_b69 h x0 x1 = some r) : pr_F A h0 r := by
  unfold fX1_other_b69 at hf
  by_cases c23 : x1 < 65
  · have hf := pm_it hf c23
    exact rgX1_other_b102 K0 Hx0 hf
  · have hf := pm_ie hf c23
    by_cases c24 : 68 < x1
    · have hf := pm_it hf c24
      exact rgX1_other_b102 K0 Hx0 hf
    · have hf := pm_ie hf c24
      obtain ⟨k25, hf⟩ := pm_if hf
      obtain ⟨v26, e27, hf⟩ := pm_bd hf
      obtain ⟨k28, hf⟩ := pm_if hf
      obtain ⟨v29, e30, hf⟩ := pm_bd hf
      have K31 := rgX1_constantIn K0 Hx0 e30
      cases hf
      exact K31
set_option maxHeartbeats 4000000 in
set_option maxRecDepth 100000 in
theorem rgX1_other_b48 {A : Nat → Prop} {h0 h : pm_H} (K0 : pr_F A h0 h) {x0 : Nat} {x1 : Int32} (Hx0 : A x0) {r : pm_H} (hf : fX1_other_b48 h x0 x1 = some r) : pr_F A h0 r := by
  unfold fX1_other_b48 at hf
  by_cases c17 : x1 < 69
  · have hf := pm_it hf c17
    exact rgX1_other_b69 K0 Hx0 hf
  · have hf := pm_ie hf c17
    by_cases c18 : 208 ≤ x1
    · have hf := pm_it hf c18
      exact rgX1_other_b69 K0 Hx0 hf
    · have hf := pm_ie hf c18
      obtain ⟨k19, hf⟩ := pm_if hf
      obtain ⟨v20, e21, hf⟩ := pm_bd hf
      have K22 := rgX1_operator K0 Hx0 e21
      cases hf
      exact K22
set_option maxHeartbeats 4000000 in
set_option maxRecDepth 100000 in
theorem rgX1_other {A : Nat → Prop} {h0 h : pm_H} (K0 : pr_F A h0 h) {a0 : Nat} {p1 : Int32} (Ha0 : A a0) {r : pm_H} (hf : fX1_other h a0 p1 = some r) : pr_F A h0 r := by
  unfold fX1_other at hf
  by_cases c1 : 28 < p1
  · have hf := pm_it hf c1
    by_cases c2 : 36 < p1
    · have hf := pm_it hf c2
      by_cases c3 : p1 < 40
      · have hf := pm_it hf c3
        exact rgX1_other_b48 K0 Ha0 hf
      · have hf := pm_ie hf c3
        by_cases c4 : 64 < p1
        · have hf := pm_it hf c4
          exact rgX1_other_b48 K0 Ha0 hf
        · have hf := pm_ie hf c4
          obtain ⟨k5, hf⟩ := pm_if hf
          obtain ⟨v6, e7, hf⟩ := pm_bd hf
          have K8 := rgX1_memoryAccess K0 Ha0 e7
          cases hf
          exact K8
    · have hf := pm_ie hf c2
      obtain ⟨k9, hf⟩ := pm_if hf
      obtain ⟨v10, e11, hf⟩ := pm_bd hf
      have K12 := rgX1_variable K0 Ha0 e11
      cases hf
      exact K12
  · have hf := pm_ie hf c1
    obtain ⟨k13, hf⟩ := pm_if hf
    obtain ⟨v14, e15, hf⟩ := pm_bd hf
    have K16 := rgX1_choice K0 Ha0 e15
    cases hf
    exact K16
set_option maxHeartbeats 4000000 in
set_option maxRecDepth 100000 in
theorem rgX8_apply {A : Nat → Prop} {h0 h : pm_H} (K0 : pr_F A h0 h) {a0 : Nat} {p1 : Int32} {p2 : Int64} {p3 : Int64} (Ha0 : A a0) {r : (Int64 × pm_H)} (hf : fX8_apply h a0 p1 p2 p3 = some r) : pr_F A h0 r.2 := by
  unfold fX8_apply at hf
  obtain ⟨k1, hf⟩ := pm_if hf
  by_cases c2 : 80 ≤ p1
  · have hf := pm_it hf c2
    by_cases c3 : 91 ≤ p1
    · have hf := pm_it hf c3
      by_cases c4 : 97 ≤ p1
      · have hf := pm_it hf c4
        by_cases c5 : 103 ≤ p1
        · have hf := pm_it hf c5
          by_cases c6 : 121 ≤ p1
          · have hf := pm_it hf c6
            by_cases c7 : 139 ≤ p1
            · have hf := pm_it hf c7
              by_cases c8 : 153 ≤ p1
              · have hf := pm_it hf c8
                by_cases c9 : 167 ≤ p1
                · have hf := pm_it hf c9
                  by_cases c10 : p1 < 178
                  · have hf := pm_it hf c10
                    obtain ⟨v11, e12, hf⟩ := pm_bd hf
                    have K13 := rgX8_toWhole (pr_sI K0 Ha0) Ha0 e12
                    cases hf
                    exact K13
                  · have hf := pm_ie hf c10
                    by_cases c14 : p1 < 192
                    · have hf := pm_it hf c14
                      obtain ⟨v15, e16, hf⟩ := pm_lt hf
                      cases hf
                      exact (pr_sI K0 Ha0)
                    · have hf := pm_ie hf c14
                      obtain ⟨v17, e18, hf⟩ := pm_bd hf
                      have K19 := rgX8_toWhole (pr_sI K0 Ha0) Ha0 e18
                      cases hf
                      exact K19
                · have hf := pm_ie hf c9
                  obtain ⟨v20, e21, hf⟩ := pm_bd hf
                  cases hf
                  exact (pr_sI K0 Ha0)
              · have hf := pm_ie hf c8
                obtain ⟨v22, e23, hf⟩ := pm_bd hf
                cases hf
                exact (pr_sI K0 Ha0)
            · have hf := pm_ie hf c7
              obtain ⟨v24, e25, hf⟩ := pm_bd hf
              have K26 := rgX8_whole64 (pr_sI K0 Ha0) Ha0 e25
              cases hf
              exact K26
          · have hf := pm_ie hf c6
            obtain ⟨v27, e28, hf⟩ := pm_bd hf
            have K29 := rgX8_whole32 (pr_sI K0 Ha0) Ha0 e28
            cases hf
            exact K29
        · have hf := pm_ie hf c5
          obtain ⟨v30, e31, hf⟩ := pm_lt hf
          cases hf
          exact (pr_sI K0 Ha0)
      · have hf := pm_ie hf c4
        obtain ⟨v32, e33, hf⟩ := pm_lt hf
        cases hf
        exact (pr_sI K0 Ha0)
    · have hf := pm_ie hf c3
      obtain ⟨v34, e35, hf⟩ := pm_lt hf
      obtain ⟨v36, e37, hf⟩ := pm_lt hf
      cases hf
      exact (pr_sI K0 Ha0)
  · have hf := pm_ie hf c2
    obtain ⟨v38, e39, hf⟩ := pm_lt hf
    obtain ⟨v40, e41, hf⟩ := pm_lt hf
    cases hf
    exact (pr_sI K0 Ha0)
set_option maxHeartbeats 4000000 in
set_option maxRecDepth 100000 in
theorem rgX10_atMemory_b35 {A : Nat → Prop} {h0 h : pm_H} (K0 : pr_F A h0 h) {s0 : Int32}  {r : (Int64 × pm_H)} (hf : fX10_atMemory_b35 h s0 = some r) : pr_F A h0 r.2 := by
  unfold fX10_atMemory_b35 at hf
  have hf := Option.some.inj hf
  subst hf
  exact K0
set_option maxHeartbeats 4000000 in
set_option maxRecDepth 100000 in
theorem rgX10_atMemory_b0 {A : Nat → Prop} {h0 h : pm_H} (K0 : pr_F A h0 h) {x0 : Nat} {x1 : Int32} {x2 : Int32} {x3 : Int32} {x4 : Int64} {x6 : Int64} (Hx0 : A x0) {r : (Int64 × pm_H)} (hf : fX10_atMemory_b0 h x0 x1 x2 x3 x4 x6 = some r) : pr_F A h0 r.2 := by
  unfold fX10_atMemory_b0 at hf
  by_cases c1 : x2 = 63
  · have hf := pm_it hf c1
    obtain ⟨k2, hf⟩ := pm_if hf
    obtain ⟨v3, e4, hf⟩ := pm_bd hf
    obtain ⟨k5, hf⟩ := pm_if hf
    obtain ⟨v6, e7, hf⟩ := pm_bd hf
    obtain ⟨v8, e9, hf⟩ := pm_bd hf
    have hf := Option.some.inj hf
    subst hf
    exact K0
  · have hf := pm_ie hf c1
    by_cases c10 : x2 = 64
    · have hf := pm_it hf c10
      obtain ⟨k11, hf⟩ := pm_if hf
      obtain ⟨v12, e13, hf⟩ := pm_bd hf
      obtain ⟨k14, hf⟩ := pm_if hf
      obtain ⟨v15, e16, hf⟩ := pm_bd hf
      have K17 := rgX6_grow K0 (pr_c K0 Hx0 e13) e16
      exact rgX10_atMemory_b35 K17  hf
    · have hf := pm_ie hf c10
      obtain ⟨y18, e19, hf⟩ := pm_lt hf
      obtain ⟨k20, hf⟩ := pm_if hf
      obtain ⟨v21, e22, hf⟩ := pm_bd hf
      obtain ⟨v23, e24, hf⟩ := pm_bd hf
      obtain ⟨k25, hf⟩ := pm_if hf
      obtain ⟨v26, e27, hf⟩ := pm_bd hf
      by_cases c28 : v26 = 0
      · have hf := pm_it hf c28
        have hf := Option.some.inj hf
        subst hf
        exact (pr_sI K0 Hx0)
      · have hf := pm_ie hf c28
        by_cases c29 : 54 ≤ x2
        · have hf := pm_it hf c29
          obtain ⟨v30, e31, hf⟩ := pm_bd hf
          have K32 := rgX6_save K0 (pr_c K0 Hx0 e22) e31
          have hf := Option.some.inj hf
          subst hf
          exact K32
        · have hf := pm_ie hf c29
          obtain ⟨v33, e34, hf⟩ := pm_bd hf
          have hf := Option.some.inj hf
          subst hf
          exact K0
set_option maxHeartbeats 4000000 in
set_option maxRecDepth 100000 in
theorem rgX10_atMemory {A : Nat → Prop} {h0 h : pm_H} (K0 : pr_F A h0 h) {a0 : Nat} {p1 : Int32} {p2 : Int32} {p3 : Int32} {p4 : Int64} {p5 : Int64} (Ha0 : A a0) {r : (Int64 × pm_H)} (hf : fX10_atMemory h a0 p1 p2 p3 p4 p5 = some r) : pr_F A h0 r.2 := by
  unfold fX10_atMemory at hf
  exact rgX10_atMemory_b0 K0 Ha0 hf
set_option maxHeartbeats 4000000 in
set_option maxRecDepth 100000 in
theorem rgX10_perform_b128 {A : Nat → Prop} {h0 h : pm_H} (K0 : pr_F A h0 h) {s0 : Int64}  {r : (Int64 × pm_H)} (hf : fX10_perform_b128 h s0 = some r) : pr_F A h0 r.2 := by
  unfold fX10_perform_b128 at hf
  have hf := Option.some.inj hf
  subst hf
  exact K0
set_option maxHeartbeats 4000000 in
set_option maxRecDepth 100000 in
theorem rgX10_perform_b106 {A : Nat → Prop} {h0 h : pm_H} (K0 : pr_F A h0 h) {x0 : Nat} {x1 : Nat} {x2 : Int32} {x3 : Int32} {x4 : Int32} {x5 : Int64} {x7 : Int64} {x9 : Int64} (Hx0 : A x0) (Hx1 : A x1) {r : (Int64 × pm_H)} (hf : fX10_perform_b106 h x0 x1 x2 x3 x4 x5 x7 x9 = some r) : pr_F A h0 r.2 := by
  unfold fX10_perform_b106 at hf
  by_cases c33 : x2 < 312
  · have hf := pm_it hf c33
    by_cases c34 : x2 = 0
    · have hf := pm_it hf c34
      obtain ⟨k35, hf⟩ := pm_if hf
      have hf := Option.some.inj hf
      subst hf
      exact (pr_sI K0 Hx0)
    have hf := pm_ie hf c34
    by_cases c36 : x2 = 27
    · have hf := pm_it hf c36
      by_cases c37 : x9 = 0
      · have hf := pm_it hf c37
        have hf := Option.some.inj hf
        subst hf
        exact K0
      · have hf := pm_ie hf c37
        have hf := Option.some.inj hf
        subst hf
        exact K0
    have hf := pm_ie hf c36
    by_cases c38 : x2 = 28
    · have hf := pm_it hf c38
      by_cases c39 : x9 = 0
      · have hf := pm_it hf c39
        have hf := Option.some.inj hf
        subst hf
        exact K0
      · have hf := pm_ie hf c39
        have hf := Option.some.inj hf
        subst hf
        exact K0
    have hf := pm_ie hf c38
    by_cases c40 : x2 = 35
    · have hf := pm_it hf c40
      obtain ⟨k41, hf⟩ := pm_if hf
      obtain ⟨v42, e43, hf⟩ := pm_bd hf
      obtain ⟨k44, hf⟩ := pm_if hf
      obtain ⟨v45, e46, hf⟩ := pm_bd hf
      obtain ⟨v47, e48, hf⟩ := pm_bd hf
      obtain ⟨v49, e50, hf⟩ := pm_bd hf
      have hf := Option.some.inj hf
      subst hf
      exact K0
    have hf := pm_ie hf c40
    by_cases c51 : x2 = 36
    · have hf := pm_it hf c51
      obtain ⟨k52, hf⟩ := pm_if hf
      obtain ⟨v53, e54, hf⟩ := pm_bd hf
      obtain ⟨k55, hf⟩ := pm_if hf
      obtain ⟨v56, e57, hf⟩ := pm_bd hf
      obtain ⟨v58, e59, hf⟩ := pm_bd hf
      obtain ⟨v60, e61, hf⟩ := pm_bd hf
      have K62 := rgX12_setItem_ K0 (pr_c K0 Hx0 e54) e61
      have hf := Option.some.inj hf
      subst hf
      exact K62
    have hf := pm_ie hf c51
    by_cases c63 : x2 = 37
    · have hf := pm_it hf c63
      obtain ⟨k64, hf⟩ := pm_if hf
      obtain ⟨v65, e66, hf⟩ := pm_bd hf
      obtain ⟨v67, e68, hf⟩ := pm_bd hf
      obtain ⟨k69, hf⟩ := pm_if hf
      obtain ⟨v70, e71, hf⟩ := pm_bd hf
      have K72 := rgX10_atTable K0 Hx0 e71
      have hf := Option.some.inj hf
      subst hf
      exact K72
    have hf := pm_ie hf c63
    by_cases c73 : x2 = 38
    · have hf := pm_it hf c73
      obtain ⟨k74, hf⟩ := pm_if hf
      obtain ⟨v75, e76, hf⟩ := pm_bd hf
      obtain ⟨v77, e78, hf⟩ := pm_bd hf
      obtain ⟨k79, hf⟩ := pm_if hf
      obtain ⟨v80, e81, hf⟩ := pm_bd hf
      have K82 := rgX10_atTable K0 Hx0 e81
      have hf := Option.some.inj hf
      subst hf
      exact K82
    have hf := pm_ie hf c73
    by_cases c83 : x2 = 209
    · have hf := pm_it hf c83
      by_cases c84 : x5 = (-1)
      · have hf := pm_it hf c84
        have hf := Option.some.inj hf
        subst hf
        exact K0
      · have hf := pm_ie hf c84
        have hf := Option.some.inj hf
        subst hf
        exact K0
    have hf := pm_ie hf c83
    by_cases c85 : x2 = 210
    · have hf := pm_it hf c85
      obtain ⟨k86, hf⟩ := pm_if hf
      obtain ⟨v87, e88, hf⟩ := pm_bd hf
      obtain ⟨v89, e90, hf⟩ := pm_bd hf
      have hf := Option.some.inj hf
      subst hf
      exact K0
    have hf := pm_ie hf c85
    have hf := Option.some.inj hf
    subst hf
    exact K0
  · have hf := pm_ie hf c33
    obtain ⟨k91, hf⟩ := pm_if hf
    obtain ⟨v92, e93, hf⟩ := pm_bd hf
    have K94 := rgX10_alongTable K0 Hx0 Hx1 e93
    exact rgX10_perform_b128 K94  hf
set_option maxHeartbeats 4000000 in
set_option maxRecDepth 100000 in
theorem rgX10_perform_b77 {A : Nat → Prop} {h0 h : pm_H} (K0 : pr_F A h0 h) {s0 : Int64}  {r : (Int64 × pm_H)} (hf : fX10_perform_b77 h s0 = some r) : pr_F A h0 r.2 := by
  unfold fX10_perform_b77 at hf
  have hf := Option.some.inj hf
  subst hf
  exact K0
set_option maxHeartbeats 4000000 in
set_option maxRecDepth 100000 in
theorem rgX10_perform_b78 {A : Nat → Prop} {h0 h : pm_H} (K0 : pr_F A h0 h) {x0 : Nat} {x1 : Nat} {x2 : Int32} {x3 : Int32} {x4 : Int32} {x5 : Int64} {x7 : Int64} {x9 : Int64} (Hx0 : A x0) (Hx1 : A x1) {r : (Int64 × pm_H)} (hf : fX10_perform_b78 h x0 x1 x2 x3 x4 x5 x7 x9 = some r) : pr_F A h0 r.2 := by
  unfold fX10_perform_b78 at hf
  by_cases c27 : x2 < 308
  · have hf := pm_it hf c27
    exact rgX10_perform_b106 K0 Hx0 Hx1 hf
  · have hf := pm_ie hf c27
    by_cases c28 : 311 < x2
    · have hf := pm_it hf c28
      exact rgX10_perform_b106 K0 Hx0 Hx1 hf
    · have hf := pm_ie hf c28
      obtain ⟨k29, hf⟩ := pm_if hf
      obtain ⟨v30, e31, hf⟩ := pm_bd hf
      have K32 := rgX10_alongMemory K0 Hx0 Hx1 e31
      have hf := Option.some.inj hf
      subst hf
      exact K32
set_option maxHeartbeats 4000000 in
set_option maxRecDepth 100000 in
theorem rgX10_perform_b46 {A : Nat → Prop} {h0 h : pm_H} (K0 : pr_F A h0 h) {x0 : Nat} {x1 : Nat} {x2 : Int32} {x3 : Int32} {x4 : Int32} {x5 : Int64} {x7 : Int64} {x9 : Int64} (Hx0 : A x0) (Hx1 : A x1) {r : (Int64 × pm_H)} (hf : fX10_perform_b46 h x0 x1 x2 x3 x4 x5 x7 x9 = some r) : pr_F A h0 r.2 := by
  unfold fX10_perform_b46 at hf
  by_cases c16 : x2 < 40
  · have hf := pm_it hf c16
    exact rgX10_perform_b78 K0 Hx0 Hx1 hf
  · have hf := pm_ie hf c16
    by_cases c17 : 64 < x2
    · have hf := pm_it hf c17
      exact rgX10_perform_b78 K0 Hx0 Hx1 hf
    · have hf := pm_ie hf c17
      obtain ⟨k18, hf⟩ := pm_if hf
      obtain ⟨v19, e20, hf⟩ := pm_bd hf
      obtain ⟨v21, e22, hf⟩ := pm_bd hf
      obtain ⟨k23, hf⟩ := pm_if hf
      obtain ⟨v24, e25, hf⟩ := pm_bd hf
      have K26 := rgX10_atMemory K0 Hx0 e25
      exact rgX10_perform_b77 K26  hf
set_option maxHeartbeats 4000000 in
set_option maxRecDepth 100000 in
theorem rgX10_perform_b0 {A : Nat → Prop} {h0 h : pm_H} (K0 : pr_F A h0 h) {x0 : Nat} {x1 : Nat} {x2 : Int32} {x3 : Int32} {x4 : Int32} {x5 : Int64} {x7 : Int64} {x9 : Int64} (Hx0 : A x0) (Hx1 : A x1) {r : (Int64 × pm_H)} (hf : fX10_perform_b0 h x0 x1 x2 x3 x4 x5 x7 x9 = some r) : pr_F A h0 r.2 := by
  unfold fX10_perform_b0 at hf
  obtain ⟨k1, hf⟩ := pm_if hf
  by_cases c2 : x2 < 69
  · have hf := pm_it hf c2
    exact rgX10_perform_b46 (pr_sI K0 Hx0) Hx0 Hx1 hf
  · have hf := pm_ie hf c2
    by_cases c3 : 208 ≤ x2
    · have hf := pm_it hf c3
      exact rgX10_perform_b46 (pr_sI K0 Hx0) Hx0 Hx1 hf
    · have hf := pm_ie hf c3
      obtain ⟨v4, e5, hf⟩ := pm_bd hf
      obtain ⟨k6, hf⟩ := pm_if hf
      obtain ⟨v7, e8, hf⟩ := pm_bd hf
      have K9 := rgX8_apply (pr_sI K0 Hx0) (pr_c (pr_sI K0 Hx0) Hx0 e5) e8
      obtain ⟨k10, hf⟩ := pm_if hf
      obtain ⟨v11, e12, hf⟩ := pm_bd hf
      obtain ⟨k13, hf⟩ := pm_if hf
      obtain ⟨y14, e15, hf⟩ := pm_lt hf
      have hf := Option.some.inj hf
      subst hf
      exact (pr_sI K9 Hx0)
set_option maxHeartbeats 4000000 in
set_option maxRecDepth 100000 in
theorem rgX10_perform {A : Nat → Prop} {h0 h : pm_H} (K0 : pr_F A h0 h) {a0 : Nat} {p1 : Nat} {p2 : Int32} {p3 : Int32} {p4 : Int32} {p5 : Int64} {p6 : Int64} {p7 : Int64} (Ha0 : A a0) (Hp1 : A p1) {r : (Int64 × pm_H)} (hf : fX10_perform h a0 p1 p2 p3 p4 p5 p6 p7 = some r) : pr_F A h0 r.2 := by
  unfold fX10_perform at hf
  exact rgX10_perform_b0 K0 Ha0 Hp1 hf
