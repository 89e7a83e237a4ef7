/-! THE CLASS: the copy of the tape -/
theorem copy_c {h : pm_H} {x0 m : Nat} (k : pm_kd h x0 = 33) (hs : x0 < pm_sz h) (hl : pm_ln h x0 < 134217728) (hm : m ≤ pm_ln h x0) (FT : ∀ j, fits .byte (.int (pm_I h x0 j)) = true) : ∃ h', fJ7_copyOf_9075b h x0 (Int32.ofNat m) = some (pm_sz h, h') ∧ nA h h' 33 m ∧ ∀ y, y < m → pm_I h' (pm_sz h) y = pm_I h x0 y := by
  unfold fJ7_copyOf_9075b fJ7_copyOf_9075b_b0
  by_cases c : m = pm_ln h x0
  · refine ⟨pm_cl h x0 1, e9_t k (e9_t (show Int32.ofNat m = Int32.ofNat (pm_ln h x0) by rw [c]) (e9_t (List.all_eq_true.mpr (fun j _ => FT j)) ?_)), by rw [c]; exact nA_cl h x0 1, fun y hy => ?_⟩
    · unfold fJ7_copyOf_9075b_b10
      exact e9_t (show pm_kd (pm_cl h x0 1) (pm_sz h) = 33 from (nA_cl h x0 1).2.1) rfl
    · show (if pm_sz h = pm_sz h then pm_I h x0 y else _) = _
      rw [if_pos rfl]
  · obtain ⟨n1, n2, n3, n4⟩ := nA_new h 33 m
    have hne : x0 ≠ pm_sz h := by omega
    have lx : pm_ln (pm_new h 33 m) x0 = pm_ln h x0 := (n4 x0 hne).2.1
    refine ⟨pm_cpI (pm_new h 33 m) x0 0 (pm_sz h) 0 m, e9_t k (e9_f (show ¬ Int32.ofNat m = Int32.ofNat (pm_ln h x0) by rw [nn_eq (by omega) (by omega)]; exact c) (e9_t (show ¬ Int32.ofNat m < 0 ∧ (Int32.ofNat m).toNatClampNeg * 1 ≤ 536870912 from ⟨by rw [n3_0, nn_lt (by omega) (by decide)]; omega, by rw [nn_cm (by omega)]; omega⟩) ?_)), ⟨n1, n2, n3, fun y hy => ?_⟩, fun y hy => ?_⟩
    · rw [nn_cm (show m < 2147483648 by omega)]
      unfold fJ7_copyOf_9075b_b17
      rw [lx, min_n (by omega) (by omega), show pm_ln (pm_new h 33 m) (pm_sz h) = m from n3, if_pos (show m < pm_ln h x0 by omega)]
      refine e9_t (show pm_kd (pm_new h 33 m) x0 = 33 from (n4 x0 hne).1.trans k) (e9_t n2 (e9_t ⟨by decide, by decide, ?_, ?_, ?_⟩ (e9_t (List.all_eq_true.mpr (fun j _ => ?_)) ?_)))
      · rw [n3_0, nn_lt (by omega) (by decide)]; omega
      · rw [show ((0 : Int32)).toNatClampNeg = 0 from rfl, nn_cm (by omega)]; omega
      · rw [show ((0 : Int32)).toNatClampNeg = 0 from rfl, nn_cm (by omega)]; omega
      · rw [(n4 x0 hne).2.2.1]; exact FT _
      · rw [nn_cm (by omega), show ((0 : Int32)).toNatClampNeg = 0 from rfl]
    · obtain ⟨k1, k2, k3, k4, k5⟩ := n4 y hy
      refine ⟨k1, k2, ?_, k4, k5⟩
      funext z
      show (if y = pm_sz h then _ else pm_I (pm_new h 33 m) y z) = _
      rw [if_neg hy, k3]
    · show (if pm_sz h = pm_sz h then va_cpy (pm_I (pm_new h 33 m) x0) (pm_I (pm_new h 33 m) (pm_sz h)) 0 0 m y else _) = _
      rw [if_pos rfl]
      unfold va_cpy
      rw [if_pos (show 0 ≤ y ∧ y < 0 + m by omega), (n4 x0 hne).2.2.1]
      exact congrArg (pm_I h x0) (by omega)
