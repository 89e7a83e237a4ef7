/-! THE CLASS READS: a number that faults is 0 -/
theorem nz_l {r : Int64 × pm_H} : ∀ n : Nat, (∀ (x1 x2 : Int32) (x3 : Int64) (x5 : Int32) (h : pm_H), pm_iter sX9_number n (.inl (19, x1, x2, x3, x5, h)) = some r → pm_I r.2 19 3 ≠ 0 → r.1 = 0) ∧ (∀ (x1 x2 : Int32) (x3 : Int64) (x5 x7 : Int32) (h : pm_H), pm_I h 19 3 = 0 → pm_iter sX9_number n (.inr (.inl (19, x1, x2, x3, x5, x7, h))) = some r → pm_I r.2 19 3 ≠ 0 → r.1 = 0) ∧ (∀ (x1 x2 : Int32) (x3 : Int64) (x5 x6 x7 s0 s1 s2 : Int32) (h : pm_H), pm_I h 19 3 = 0 → pm_iter sX9_number n (.inr (.inr (19, x1, x2, x3, x5, x6, x7, s0, s1, s2, h))) = some r → pm_I r.2 19 3 ≠ 0 → r.1 = 0) := by
  intro n
  induction n with
  | zero => exact ⟨fun _ _ _ _ _ hf => (by cases hf), fun _ _ _ _ _ _ _ hf => (by cases hf), fun _ _ _ _ _ _ _ _ _ _ _ hf => (by cases hf)⟩
  | succ n ih =>
    refine ⟨fun x1 x2 x3 x5 h hf nz => ?_, fun x1 x2 x3 x5 x7 h z hf nz => ?_, fun x1 x2 x3 x5 x6 x7 s0 s1 s2 h z hf nz => ?_⟩
    · obtain ⟨y, hf, hi⟩ := pm_iter_s hf
      have hf : tX9_number_10 19 x1 x2 x3 x5 h = some y := hf
      unfold tX9_number_10 at hf
      by_cases c3 : x2 ≤ x5
      · have hf := pm_it hf c3
        cases hf
        cases hi
        rfl
      · have hf := pm_ie hf c3
        obtain ⟨k4, hf⟩ := pm_if hf
        by_cases c5 : (pm_I h 19 3) = 0
        · have hf := pm_it hf c5
          obtain ⟨y6, e7, hf⟩ := pm_lt hf
          obtain ⟨v8, e9, hf⟩ := pm_bd hf
          obtain ⟨k11, hf⟩ := pm_if hf
          by_cases c12 : (pm_I v8.2 19 3) = 0
          · have hf := pm_it hf c12
            by_cases c13 : (x5 + 7) < x2
            · have hf := pm_it hf c13
              cases hf
              exact ih.2.1 x1 x2 x3 x5 v8.1 v8.2 c12 hi nz
            · have hf := pm_ie hf c13
              by_cases c14 : 0 ≤ x1
              · have hf := pm_it hf c14
                cases hf
                exact ih.2.2 x1 x2 x3 x5 y6 v8.1 0 (x2 - x5) v8.1 v8.2 c12 hi nz
              · have hf := pm_ie hf c14
                cases hf
                exact ih.2.2 x1 x2 x3 x5 y6 v8.1 1 (x2 - x5) v8.1 v8.2 c12 hi nz
          · have hf := pm_ie hf c12
            cases hf
            cases hi
            rfl
        · have hf := pm_ie hf c5
          cases hf
          cases hi
          rfl
    · obtain ⟨y, hf, hi⟩ := pm_iter_s hf
      have hf : tX9_number_83 19 x1 x2 x3 x5 x7 h = some y := hf
      unfold tX9_number_83 at hf
      obtain ⟨y15, e16, hf⟩ := pm_lt hf
      by_cases c17 : 128 ≤ x7
      · have hf := pm_it hf c17
        obtain ⟨y18, e19, hf⟩ := pm_lt hf
        cases hf
        exact ih.1 x1 x2 y15 y18 h hi nz
      · have hf := pm_ie hf c17
        by_cases c20 : 0 ≤ x1
        · have hf := pm_it hf c20
          cases hf
          cases hi
          exact absurd z nz
        · have hf := pm_ie hf c20
          by_cases c21 : (x7 &&& 64) = 0
          · have hf := pm_it hf c21
            cases hf
            cases hi
            exact absurd z nz
          · have hf := pm_ie hf c21
            by_cases c22 : 57 ≤ x5
            · have hf := pm_it hf c22
              cases hf
              cases hi
              exact absurd z nz
            · have hf := pm_ie hf c22
              cases hf
              cases hi
              exact absurd z nz
    · obtain ⟨y, hf, hi⟩ := pm_iter_s hf
      have hf : tX9_number_68 19 x1 x2 x3 x5 x6 x7 s0 s1 s2 h = some y := hf
      unfold tX9_number_68 at hf
      obtain ⟨v23, e24, hf⟩ := pm_lt hf
      by_cases c25 : v23 = 0
      · have hf := pm_it hf c25
        obtain ⟨k26, hf⟩ := pm_if hf
        obtain ⟨v27, e28, hf⟩ := pm_bd hf
        cases hf
        cases hi
        rfl
      · have hf := pm_ie hf c25
        cases hf
        exact ih.2.1 x1 x2 x3 x5 x7 h z hi nz
theorem num_z {h : pm_H} {p1 : Int32} {r : Int64 × pm_H} (hf : fX9_number h 19 p1 = some r) (nz : pm_I r.2 19 3 ≠ 0) : r.1 = 0 := by
  unfold fX9_number at hf
  obtain ⟨y1, e2, hf⟩ := pm_lt hf
  obtain ⟨n, hn⟩ := pm_lim_iter hf
  exact (nz_l n).1 p1 y1 0 0 h hn nz
theorem u_num0 {α ρ : Type} {w : ρ → pm_H} {F : pm_H → Prop} {R : α → Nat → ρ → Prop} {R1 : α → Nat → Int64 × pm_H → Prop} {h0 H : pm_H} {i : Int32} {k : Int64 × pm_H → Option ρ} {o1 : sp_O α} (Q : cs_Q (fun r : Int64 × pm_H => r.2) (fun h' => h' = h0) R1 (fX9_number H 19 i) o1) (D : ∀ a f q, f ≠ 0 → cd_Q w F f q (k (0, rc h0 a f q))) (K : ∀ v p r, o1 = .inr (v, p) → R1 v p r → ∃ r', k r = some r' ∧ R v p r') : cs_Q w F R ((fX9_number H 19 i).bind k) o1 := by
  cases o1 with
  | inl z =>
    obtain ⟨hn, ⟨r1, r2⟩, h', a, e, ew, hF⟩ := Q
    have ew : r2 = _ := ew
    have r0 : r1 = 0 := num_z e (by show pm_I r2 19 3 ≠ 0; rw [ew]; exact nz_fl hn)
    rw [e]
    refine ⟨hn, ?_⟩
    rw [show (some (r1, r2)).bind k = k (r1, r2) from rfl, ew, hF, r0]
    exact D a _ _ (nz_fl hn)
  | inr z =>
    obtain ⟨r, e, h1⟩ := Q
    rw [e]
    exact K z.1 z.2 r rfl h1
