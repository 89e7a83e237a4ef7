/-! BETWEEN CALLS: both tapes hold the same -/
def tpR (h : pm_H) (n f : Nat) : Prop := (pm_kd h 0 = 12 ∧ pm_R h 0 0 = some 1 ∧ pm_kd h 1 = 33 ∧ pm_ln h 1 = 40960) ∧ (pm_kd h 592 = 16 ∧ pm_R h 592 0 = some 593 ∧ pm_kd h 593 = 33 ∧ pm_ln h 593 = 40980) ∧ (pm_I h 0 1 = Int32.ofNat n ∧ pm_I h 0 2 = Int32.ofNat f) ∧ (pm_I h 592 1 = Int32.ofNat n ∧ pm_I h 592 2 = Int32.ofNat f) ∧ n ≤ f ∧ f ≤ 40960 ∧ ∀ i, i < n → pm_I h 593 i = pm_I h 1 i
/-- what feed leaves alone -/
def fdF (h h' : pm_H) : Prop := pe_S h h' ∧ (∀ x y, x ≠ 0 → x ≠ 1 → x ≠ 592 → x ≠ 593 → pm_I h' x y = pm_I h x y) ∧ ∀ y, y ≠ 1 → y ≠ 2 → pm_I h' 0 y = pm_I h 0 y ∧ pm_I h' 592 y = pm_I h 592 y
theorem rel_feed {h : pm_H} {n f : Nat} (T : tpR h n f) (r : pl_R h) (q : Nat → Int32) : ∃ h' n' f', lw_s0 q 0 592 h = some h' ∧ fdF h h' ∧ pl_R h' ∧ tpR h' n' f' := by
  obtain ⟨⟨a1, a2, a3, a4⟩, ⟨b1, b2, b3, b4⟩, ⟨i1, i2⟩, ⟨j1, j2⟩, hnf, hf, he⟩ := id T
  by_cases c : f ≤ 40940
  · obtain ⟨g, e1, S1, x1, y1, t1⟩ := cw_feed (h := h) (a := 0) (t := 1) (n := n) (f := f) (q 1) (q 2) (q 3) (q 4) (q 5) a1 a2 a3 a4 i1 i2 hnf c
    have k1 : ∀ x y, x = 592 ∨ x = 593 → pm_I g x y = pm_I h x y := fun x y hx => x1 x y (by omega) (by omega)
    obtain ⟨u, e2, S2, x2, y2, t2⟩ := cw_feedT (h := g) (a := 592) (t := 593) (n := n) (f := f) (q 1) (q 2) (q 3) (q 4) (q 5) ((S1.2.1 592).trans b1) ((S1.2.2.2.2 592 0).trans b2) ((S1.2.1 593).trans b3) ((S1.2.2.1 593).trans b4) ((k1 592 1 (.inl rfl)).trans j1) ((k1 592 2 (.inl rfl)).trans j2) hnf c
    have S : pe_S h u := pe_S_t S1 S2
    refine ⟨u, n + 20, f + 20, ?_, ⟨S, fun x y h0 h1 h2 h3 => (x2 x y h3 h2).trans (x1 x y h1 h0), fun y h1 h2 => ⟨?_, ?_⟩⟩, pe_S_R S r, ?_⟩
    · unfold lw_s0
      rw [e1, Option.bind_some, if_pos ⟨(S1.2.1 592).trans b1, pe_S_R S1 r⟩, e2, Option.bind_some, if_pos ⟨rfl, pe_S_R S2 (pe_S_R S1 r)⟩]
    · rw [x2 0 y (by decide) (by decide), y1 y, if_neg h1, if_neg h2]
    · rw [y2 y, if_neg h1, if_neg h2]
      exact k1 592 y (.inl rfl)
    · refine ⟨⟨(S.2.1 0).trans a1, (S.2.2.2.2 0 0).trans a2, (S.2.1 1).trans a3, (S.2.2.1 1).trans a4⟩, ⟨(S.2.1 592).trans b1, (S.2.2.2.2 592 0).trans b2, (S.2.1 593).trans b3, (S.2.2.1 593).trans b4⟩, ⟨?_, ?_⟩, ⟨?_, ?_⟩, by omega, by omega, fun i hi => ?_⟩
      · rw [x2 0 1 (by decide) (by decide), y1 1]; rfl
      · rw [x2 0 2 (by decide) (by decide), y1 2]; rfl
      · rw [y2 1]; rfl
      · rw [y2 2]; rfl
      · rw [t2 i, x2 1 i (by decide) (by decide), t1 i]
        by_cases d : n ≤ i ∧ i < n + 20
        · rw [if_pos d, if_pos d]
        · rw [if_neg d, if_neg d, k1 593 i (.inr rfl)]
          exact he i (by omega)
  · refine ⟨h, n, f, ?_, ⟨⟨rfl, fun _ => rfl, fun _ => rfl, fun _ _ => rfl, fun _ _ => rfl⟩, fun _ _ _ _ _ _ => rfl, fun _ _ _ => ⟨rfl, rfl⟩⟩, r, T⟩
    have e1 : fX12_feed h 0 (q 1) (q 2) (q 3) (q 4) (q 5) = some (-1, h) := by
      unfold fX12_feed
      rw [if_pos a1, i2, if_neg (by rw [show (40940 : Int32) = Int32.ofNat 40940 from rfl, nn_le (by omega) (by decide)]; exact c)]
    have e2 : fX16_feed h 592 (q 1) (q 2) (q 3) (q 4) (q 5) = some (-1, h) := by
      unfold fX16_feed
      rw [if_pos b1, j2, if_neg (by rw [show (20 : Int32) = Int32.ofNat 20 from rfl, nn_ad, show (40960 : Int32) = Int32.ofNat 40960 from rfl, nn_le (by omega) (by decide)]; omega)]
    unfold lw_s0
    rw [e1, Option.bind_some, if_pos ⟨b1, r⟩, e2, Option.bind_some, if_pos ⟨rfl, r⟩]
