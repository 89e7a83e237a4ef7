/-! CONSTRUCTORS, third: Reader, Compiler, Frame, Tables, Memories, Module -/
theorem cX9 {h : pm_H} {a p : Nat} (hz : pe_Z h a 9 0) (ha : a < pm_sz h) : ∃ h', fX9_init h a p = some h' ∧ pm_sz h' = pm_sz h + 2 ∧ pe_K h h' a ∧ (∀ y, pm_I h' a y = 0) ∧ (∀ y, pm_L h' a y = 0) ∧ (pm_R h' a 0 = some (p) ∧ pm_R h' a 17 = some (pm_sz h) ∧ pm_R h' a 18 = some (pm_sz h + 1)) ∧ pe_Z h' (pm_sz h) 32 20481 ∧ pe_Z h' (pm_sz h + 1) 34 34 := by
  have hk := hz.1
  refine pe_ex (by
    simp only [fX9_init, fX9_init_b0, fX9_init_b10, fX9_init_b18, ev_szI, ev_szL, ev_szR, ev_szN, ev_kdI, ev_kdL, ev_kdR, ev_kdN, ev_lnI, ev_lnL, ev_lnR, ev_lnN, ev_II, ev_IL, ev_IR, ev_IN, ev_LI, ev_LL, ev_LR, ev_LN, ev_RI, ev_RL, ev_RR, ev_RN, Nat.add_assoc, Nat.reduceAdd, Nat.add_left_cancel_iff, Nat.left_eq_add, Nat.add_eq_left, Nat.reduceEqDiff, reduceIte, if_true, if_false, Option.bind_some, ev_let, pe_na ha, pe_na0 ha, hk]
    rfl) ?_
  refine ⟨?_, ⟨?_, ?_, ?_, fun x hx hxa => ⟨?_, ?_, fun y => ?_, fun y => ?_, fun y => ?_⟩⟩, fun y => ?_, fun y => ?_, ⟨?_, ?_, ?_⟩, ⟨?_, ?_, fun y => ?_, fun y => ?_, fun y => ?_⟩, ⟨?_, ?_, fun y => ?_, fun y => ?_, fun y => ?_⟩⟩
  all_goals first
    | (simp only [ev_szI, ev_szL, ev_szR, ev_szN, ev_kdI, ev_kdL, ev_kdR, ev_kdN, ev_lnI, ev_lnL, ev_lnR, ev_lnN, ev_II, ev_IL, ev_IR, ev_IN, ev_LI, ev_LL, ev_LR, ev_LN, ev_RI, ev_RL, ev_RR, ev_RN, Nat.add_assoc, Nat.reduceAdd, Nat.add_left_cancel_iff, Nat.left_eq_add, Nat.add_eq_left, Nat.reduceEqDiff, reduceIte, if_true, if_false, Option.bind_some, ev_let, pe_na ha, pe_na0 ha, pe_nb ha, pe_nb0 ha, hk, hz.2.2.1, hz.2.2.2.1]; done)
    | (simp only [ev_szI, ev_szL, ev_szR, ev_szN, ev_kdI, ev_kdL, ev_kdR, ev_kdN, ev_lnI, ev_lnL, ev_lnR, ev_lnN, ev_II, ev_IL, ev_IR, ev_IN, ev_LI, ev_LL, ev_LR, ev_LN, ev_RI, ev_RL, ev_RR, ev_RN, Nat.add_assoc, Nat.reduceAdd, Nat.add_left_cancel_iff, Nat.left_eq_add, Nat.add_eq_left, Nat.reduceEqDiff, reduceIte, if_true, if_false, Option.bind_some, ev_let, pe_na ha, pe_na0 ha, pe_nb ha, pe_nb0 ha, pe_na hx, pe_na0 hx, eq_false hxa]; done)
    | (simp only [ev_szI, ev_szL, ev_szR, ev_szN, ev_kdI, ev_kdL, ev_kdR, ev_kdN, ev_lnI, ev_lnL, ev_lnR, ev_lnN, ev_II, ev_IL, ev_IR, ev_IN, ev_LI, ev_LL, ev_LR, ev_LN, ev_RI, ev_RL, ev_RR, ev_RN, Nat.add_assoc, Nat.reduceAdd, Nat.add_left_cancel_iff, Nat.left_eq_add, Nat.add_eq_left, Nat.reduceEqDiff, reduceIte, if_true, if_false, Option.bind_some, ev_let]; omega)
theorem cX2 {h : pm_H} {a p : Nat} (hz : pe_Z h a 2 0) (ha : a < pm_sz h) : ∃ h', fX2_init h a p = some h' ∧ pm_sz h' = pm_sz h + 5 ∧ pe_K h h' a ∧ (∀ y, pm_I h' a y = if y = 0 then 32768 else 0) ∧ (∀ y, pm_L h' a y = 0) ∧ (pm_R h' a 1 = some (p) ∧ pm_R h' a 3 = some (pm_sz h) ∧ pm_R h' a 6 = some (pm_sz h + 1) ∧ pm_R h' a 8 = some (pm_sz h + 2) ∧ pm_R h' a 9 = some (pm_sz h + 3) ∧ pm_R h' a 10 = some (pm_sz h + 4)) ∧ pe_Z h' (pm_sz h) 34 0 ∧ pe_Z h' (pm_sz h + 1) 35 0 ∧ pe_Z h' (pm_sz h + 2) 34 0 ∧ pe_Z h' (pm_sz h + 3) 32 0 ∧ pe_Z h' (pm_sz h + 4) 34 1001 := by
  have hk := hz.1
  refine pe_ex (by
    simp only [fX2_init, fX2_init_b0, fX2_init_b14, fX2_init_b21, fX2_init_b28, fX2_init_b35, fX2_init_b44, ev_szI, ev_szL, ev_szR, ev_szN, ev_kdI, ev_kdL, ev_kdR, ev_kdN, ev_lnI, ev_lnL, ev_lnR, ev_lnN, ev_II, ev_IL, ev_IR, ev_IN, ev_LI, ev_LL, ev_LR, ev_LN, ev_RI, ev_RL, ev_RR, ev_RN, Nat.add_assoc, Nat.reduceAdd, Nat.add_left_cancel_iff, Nat.left_eq_add, Nat.add_eq_left, Nat.reduceEqDiff, reduceIte, if_true, if_false, Option.bind_some, ev_let, pe_na ha, pe_na0 ha, hk]
    rfl) ?_
  refine ⟨?_, ⟨?_, ?_, ?_, fun x hx hxa => ⟨?_, ?_, fun y => ?_, fun y => ?_, fun y => ?_⟩⟩, fun y => ?_, fun y => ?_, ⟨?_, ?_, ?_, ?_, ?_, ?_⟩, ⟨?_, ?_, fun y => ?_, fun y => ?_, fun y => ?_⟩, ⟨?_, ?_, fun y => ?_, fun y => ?_, fun y => ?_⟩, ⟨?_, ?_, fun y => ?_, fun y => ?_, fun y => ?_⟩, ⟨?_, ?_, fun y => ?_, fun y => ?_, fun y => ?_⟩, ⟨?_, ?_, fun y => ?_, fun y => ?_, fun y => ?_⟩⟩
  all_goals first
    | (simp only [ev_szI, ev_szL, ev_szR, ev_szN, ev_kdI, ev_kdL, ev_kdR, ev_kdN, ev_lnI, ev_lnL, ev_lnR, ev_lnN, ev_II, ev_IL, ev_IR, ev_IN, ev_LI, ev_LL, ev_LR, ev_LN, ev_RI, ev_RL, ev_RR, ev_RN, Nat.add_assoc, Nat.reduceAdd, Nat.add_left_cancel_iff, Nat.left_eq_add, Nat.add_eq_left, Nat.reduceEqDiff, reduceIte, if_true, if_false, Option.bind_some, ev_let, pe_na ha, pe_na0 ha, pe_nb ha, pe_nb0 ha, hk, hz.2.2.1, hz.2.2.2.1]; done)
    | (simp only [ev_szI, ev_szL, ev_szR, ev_szN, ev_kdI, ev_kdL, ev_kdR, ev_kdN, ev_lnI, ev_lnL, ev_lnR, ev_lnN, ev_II, ev_IL, ev_IR, ev_IN, ev_LI, ev_LL, ev_LR, ev_LN, ev_RI, ev_RL, ev_RR, ev_RN, Nat.add_assoc, Nat.reduceAdd, Nat.add_left_cancel_iff, Nat.left_eq_add, Nat.add_eq_left, Nat.reduceEqDiff, reduceIte, if_true, if_false, Option.bind_some, ev_let, pe_na ha, pe_na0 ha, pe_nb ha, pe_nb0 ha, pe_na hx, pe_na0 hx, eq_false hxa]; done)
    | (simp only [ev_szI, ev_szL, ev_szR, ev_szN, ev_kdI, ev_kdL, ev_kdR, ev_kdN, ev_lnI, ev_lnL, ev_lnR, ev_lnN, ev_II, ev_IL, ev_IR, ev_IN, ev_LI, ev_LL, ev_LR, ev_LN, ev_RI, ev_RL, ev_RR, ev_RN, Nat.add_assoc, Nat.reduceAdd, Nat.add_left_cancel_iff, Nat.left_eq_add, Nat.add_eq_left, Nat.reduceEqDiff, reduceIte, if_true, if_false, Option.bind_some, ev_let]; omega)
theorem pe_sR (h : pm_H) (a k : Nat) (v : Option Nat) : pe_K h (pm_setR h a k v) a ∧ (∀ x, x ≠ a → pe_E h (pm_setR h a k v) x) := by
  have f : ∀ x, x ≠ a → pe_E h (pm_setR h a k v) x := fun x hx => ⟨rfl, rfl, fun _ => rfl, fun _ => rfl, fun y => by rw [ev_RR, if_neg hx]⟩
  exact ⟨⟨Nat.le_refl _, rfl, rfl, fun x _ hx => f x hx⟩, f⟩
theorem pe_sI (h : pm_H) (a k : Nat) (v : Int32) : pe_K h (pm_setI h a k v) a ∧ (∀ x, x ≠ a → pe_E h (pm_setI h a k v) x) := by
  have f : ∀ x, x ≠ a → pe_E h (pm_setI h a k v) x := fun x hx => ⟨rfl, rfl, fun y => by rw [ev_II, if_neg hx], fun _ => rfl, fun _ => rfl⟩
  exact ⟨⟨Nat.le_refl _, rfl, rfl, fun x _ hx => f x hx⟩, f⟩
theorem pe_sL (h : pm_H) (a k : Nat) (v : Int64) : pe_K h (pm_setL h a k v) a ∧ (∀ x, x ≠ a → pe_E h (pm_setL h a k v) x) := by
  have f : ∀ x, x ≠ a → pe_E h (pm_setL h a k v) x := fun x hx => ⟨rfl, rfl, fun _ => rfl, fun y => by rw [ev_LL, if_neg hx], fun _ => rfl⟩
  exact ⟨⟨Nat.le_refl _, rfl, rfl, fun x _ hx => f x hx⟩, f⟩
/-- a row of rows, and a field that holds it -/
theorem pe_maset (g : pm_H) (t u N a k : Nat) (ha : a < pm_sz g) : pm_sz (pm_setR (pm_ma g t u N N) a k (some (pm_sz g))) = pm_sz g + 1 + N ∧ pe_K g (pm_setR (pm_ma g t u N N) a k (some (pm_sz g))) a ∧ (∀ y, pm_I (pm_setR (pm_ma g t u N N) a k (some (pm_sz g))) a y = pm_I g a y) ∧ (∀ y, pm_L (pm_setR (pm_ma g t u N N) a k (some (pm_sz g))) a y = pm_L g a y) ∧ (∀ y, pm_R (pm_setR (pm_ma g t u N N) a k (some (pm_sz g))) a y = if y = k then some (pm_sz g) else pm_R g a y) ∧ pm_kd (pm_setR (pm_ma g t u N N) a k (some (pm_sz g))) (pm_sz g) = t + 32 ∧ pm_ln (pm_setR (pm_ma g t u N N) a k (some (pm_sz g))) (pm_sz g) = N ∧ (∀ y, y < N → pm_R (pm_setR (pm_ma g t u N N) a k (some (pm_sz g))) (pm_sz g) y = some (pm_sz g + 1 + y)) ∧ (∀ i, i < N → pe_Z (pm_setR (pm_ma g t u N N) a k (some (pm_sz g))) (pm_sz g + 1 + i) (u + 32) 0) := by
  obtain ⟨m1, m2, m3, m4, m5, m6⟩ := pe_ma g t u N
  have s := pe_sR (pm_ma g t u N N) a k (some (pm_sz g))
  have ea := m1 a ha
  refine ⟨m2, ⟨?_, ea.1, ea.2.1, fun x hx hxa => pe_E_t (m1 x hx) (s.2 x hxa)⟩, ea.2.2.1, ea.2.2.2.1, fun y => ?_, m3, m4, fun y hy => ?_, fun i hi => pe_E_Z (s.2 _ (by omega)) (m6 i hi)⟩
  · show pm_sz g ≤ pm_sz (pm_ma g t u N N)
    rw [m2]; omega
  · rw [ev_RR, if_pos rfl, ea.2.2.2.2]
  · rw [ev_RR, if_neg (by omega), m5 y hy]
/-- Tables -/
theorem cX11 {h : pm_H} {a : Nat} (hz : pe_Z h a 11 0) (ha : a < pm_sz h) : ∃ h', fX11_init h a = some h' ∧ pm_sz h' = pm_sz h + 36 ∧ pe_K h h' a ∧ (∀ y, pm_I h' a y = if y = 1 then 1024 else 0) ∧ (∀ y, pm_L h' a y = 0) ∧ (pm_R h' a 2 = some (pm_sz h) ∧ pm_R h' a 3 = some (pm_sz h + 1) ∧ pm_R h' a 4 = some (pm_sz h + 2) ∧ pm_R h' a 5 = some (pm_sz h + 3)) ∧ pe_Z h' (pm_sz h) 34 32 ∧ pe_Z h' (pm_sz h + 1) 34 32 ∧ pe_Z h' (pm_sz h + 2) 35 32 ∧ pm_kd h' (pm_sz h + 3) = 36 ∧ pm_ln h' (pm_sz h + 3) = 32 ∧ (∀ y, y < 32 → pm_R h' (pm_sz h + 3) y = some (pm_sz h + 4 + y)) ∧ (∀ i, i < 32 → pe_Z h' (pm_sz h + 4 + i) 34 0) := by
  have hk := hz.1
  obtain ⟨g, eg⟩ : ∃ g, g = pm_setR (pm_new (pm_setR (pm_new (pm_setR (pm_new (pm_setI h a 1 1024) 34 32) a 2 (some (pm_sz h))) 34 32) a 3 (some (pm_sz h + 1))) 35 32) a 4 (some (pm_sz h + 2)) := ⟨_, rfl⟩
  have F : pm_sz g = pm_sz h + 3 ∧ pe_K h g a ∧ (∀ y, pm_I g a y = if y = 1 then 1024 else 0) ∧ (∀ y, pm_L g a y = 0) ∧ (pm_R g a 2 = some (pm_sz h) ∧ pm_R g a 3 = some (pm_sz h + 1) ∧ pm_R g a 4 = some (pm_sz h + 2)) ∧ pe_Z g (pm_sz h) 34 32 ∧ pe_Z g (pm_sz h + 1) 34 32 ∧ pe_Z g (pm_sz h + 2) 35 32 := by
    rw [eg]
    refine ⟨?_, ⟨?_, ?_, ?_, fun x hx hxa => ⟨?_, ?_, fun y => ?_, fun y => ?_, fun y => ?_⟩⟩, fun y => ?_, fun y => ?_, ⟨?_, ?_, ?_⟩, ⟨?_, ?_, fun y => ?_, fun y => ?_, fun y => ?_⟩, ⟨?_, ?_, fun y => ?_, fun y => ?_, fun y => ?_⟩, ⟨?_, ?_, fun y => ?_, fun y => ?_, fun y => ?_⟩⟩
    all_goals first
      | (simp only [ev_szI, ev_szL, ev_szR, ev_szN, ev_kdI, ev_kdL, ev_kdR, ev_kdN, ev_lnI, ev_lnL, ev_lnR, ev_lnN, ev_II, ev_IL, ev_IR, ev_IN, ev_LI, ev_LL, ev_LR, ev_LN, ev_RI, ev_RL, ev_RR, ev_RN, Nat.add_assoc, Nat.reduceAdd, Nat.add_left_cancel_iff, Nat.left_eq_add, Nat.add_eq_left, Nat.reduceEqDiff, reduceIte, if_true, if_false, Option.bind_some, ev_let, pe_na ha, pe_na0 ha, pe_nb ha, pe_nb0 ha, hk, hz.2.2.1, hz.2.2.2.1]; done)
      | (simp only [ev_szI, ev_szL, ev_szR, ev_szN, ev_kdI, ev_kdL, ev_kdR, ev_kdN, ev_lnI, ev_lnL, ev_lnR, ev_lnN, ev_II, ev_IL, ev_IR, ev_IN, ev_LI, ev_LL, ev_LR, ev_LN, ev_RI, ev_RL, ev_RR, ev_RN, Nat.add_assoc, Nat.reduceAdd, Nat.add_left_cancel_iff, Nat.left_eq_add, Nat.add_eq_left, Nat.reduceEqDiff, reduceIte, if_true, if_false, Option.bind_some, ev_let, pe_na ha, pe_na0 ha, pe_nb ha, pe_nb0 ha, pe_na hx, pe_na0 hx, eq_false hxa]; done)
      | (simp only [ev_szI, ev_szL, ev_szR, ev_szN, ev_kdI, ev_kdL, ev_kdR, ev_kdN, ev_lnI, ev_lnL, ev_lnR, ev_lnN, ev_II, ev_IL, ev_IR, ev_IN, ev_LI, ev_LL, ev_LR, ev_LN, ev_RI, ev_RL, ev_RR, ev_RN, Nat.add_assoc, Nat.reduceAdd, Nat.add_left_cancel_iff, Nat.left_eq_add, Nat.add_eq_left, Nat.reduceEqDiff, reduceIte, if_true, if_false, Option.bind_some, ev_let]; omega)
  obtain ⟨s0, K0, i0, l0, ⟨r2, r3, r4⟩, z0, z1, z2⟩ := F
  have kg : pm_kd g a = 11 := K0.2.1.trans hk
  have hag : a < pm_sz g := by omega
  have km : pm_kd (pm_ma g 4 2 32 32) a = 11 := ((pe_ma g 4 2 32).1 a hag).1.trans kg
  have e : fX11_init h a = some (pm_setR (pm_ma g 4 2 32 32) a 5 (some (pm_sz g))) := by
    have e2 : fX11_init h a = fX11_init_b43 (pm_ma g 4 2 32 32) (pm_sz g) a := by
      rw [eg]
      simp only [fX11_init, fX11_init_b0, fX11_init_b16, fX11_init_b24, fX11_init_b32, ev_szI, ev_szL, ev_szR, ev_szN, ev_kdI, ev_kdL, ev_kdR, ev_kdN, ev_lnI, ev_lnL, ev_lnR, ev_lnN, ev_II, ev_IL, ev_IR, ev_IN, ev_LI, ev_LL, ev_LR, ev_LN, ev_RI, ev_RL, ev_RR, ev_RN, Nat.add_assoc, Nat.reduceAdd, Nat.add_left_cancel_iff, Nat.left_eq_add, Nat.add_eq_left, Nat.reduceEqDiff, reduceIte, if_true, if_false, Option.bind_some, ev_let, pe_na ha, pe_na0 ha, hk]
    rw [e2, fX11_init_b43, if_pos km]
  obtain ⟨m1, m2, m3, m4, m5, m6, m7, m8, m9⟩ := pe_maset g 4 2 32 a 5 hag
  rw [s0] at e m1 m2 m3 m4 m5 m6 m7 m8 m9
  have K2 := fun x hx hxa => m2.2.2.2 x hx hxa
  refine ⟨_, e, m1, pe_K_t ha K0 m2 (Or.inl rfl), fun y => (m3 y).trans (i0 y), fun y => (m4 y).trans (l0 y), ⟨(m5 2).trans r2, (m5 3).trans r3, (m5 4).trans r4, (m5 5).trans (if_pos rfl)⟩, pe_E_Z (K2 _ (by omega) (by omega)) z0, pe_E_Z (K2 _ (by omega) (by omega)) z1, pe_E_Z (K2 _ (by omega) (by omega)) z2, m6, m7, m8, m9⟩
/-- Memories -/
theorem cX6 {h : pm_H} {a : Nat} (hz : pe_Z h a 6 0) (ha : a < pm_sz h) : ∃ h', fX6_init h a = some h' ∧ pm_sz h' = pm_sz h + 131 ∧ pe_K h h' a ∧ (∀ y, pm_I h' a y = if y = 1 then 8 else 0) ∧ (∀ y, pm_L h' a y = 0) ∧ (pm_R h' a 2 = some (pm_sz h) ∧ pm_R h' a 3 = some (pm_sz h + 1) ∧ pm_R h' a 4 = some (pm_sz h + 2)) ∧ pe_Z h' (pm_sz h) 34 16 ∧ pe_Z h' (pm_sz h + 1) 35 16 ∧ pm_kd h' (pm_sz h + 2) = 37 ∧ pm_ln h' (pm_sz h + 2) = 128 ∧ (∀ y, y < 128 → pm_R h' (pm_sz h + 2) y = some (pm_sz h + 3 + y)) ∧ (∀ i, i < 128 → pe_Z h' (pm_sz h + 3 + i) 33 0) := by
  have hk := hz.1
  obtain ⟨g, eg⟩ : ∃ g, g = pm_setR (pm_new (pm_setR (pm_new (pm_setI h a 1 8) 34 16) a 2 (some (pm_sz h))) 35 16) a 3 (some (pm_sz h + 1)) := ⟨_, rfl⟩
  have F : pm_sz g = pm_sz h + 2 ∧ pe_K h g a ∧ (∀ y, pm_I g a y = if y = 1 then 8 else 0) ∧ (∀ y, pm_L g a y = 0) ∧ (pm_R g a 2 = some (pm_sz h) ∧ pm_R g a 3 = some (pm_sz h + 1)) ∧ pe_Z g (pm_sz h) 34 16 ∧ pe_Z g (pm_sz h + 1) 35 16 := by
    rw [eg]
    refine ⟨?_, ⟨?_, ?_, ?_, fun x hx hxa => ⟨?_, ?_, fun y => ?_, fun y => ?_, fun y => ?_⟩⟩, fun y => ?_, fun y => ?_, ⟨?_, ?_⟩, ⟨?_, ?_, fun y => ?_, fun y => ?_, fun y => ?_⟩, ⟨?_, ?_, fun y => ?_, fun y => ?_, fun y => ?_⟩⟩
    all_goals first
      | (simp only [ev_szI, ev_szL, ev_szR, ev_szN, ev_kdI, ev_kdL, ev_kdR, ev_kdN, ev_lnI, ev_lnL, ev_lnR, ev_lnN, ev_II, ev_IL, ev_IR, ev_IN, ev_LI, ev_LL, ev_LR, ev_LN, ev_RI, ev_RL, ev_RR, ev_RN, Nat.add_assoc, Nat.reduceAdd, Nat.add_left_cancel_iff, Nat.left_eq_add, Nat.add_eq_left, Nat.reduceEqDiff, reduceIte, if_true, if_false, Option.bind_some, ev_let, pe_na ha, pe_na0 ha, pe_nb ha, pe_nb0 ha, hk, hz.2.2.1, hz.2.2.2.1]; done)
      | (simp only [ev_szI, ev_szL, ev_szR, ev_szN, ev_kdI, ev_kdL, ev_kdR, ev_kdN, ev_lnI, ev_lnL, ev_lnR, ev_lnN, ev_II, ev_IL, ev_IR, ev_IN, ev_LI, ev_LL, ev_LR, ev_LN, ev_RI, ev_RL, ev_RR, ev_RN, Nat.add_assoc, Nat.reduceAdd, Nat.add_left_cancel_iff, Nat.left_eq_add, Nat.add_eq_left, Nat.reduceEqDiff, reduceIte, if_true, if_false, Option.bind_some, ev_let, pe_na ha, pe_na0 ha, pe_nb ha, pe_nb0 ha, pe_na hx, pe_na0 hx, eq_false hxa]; done)
      | (simp only [ev_szI, ev_szL, ev_szR, ev_szN, ev_kdI, ev_kdL, ev_kdR, ev_kdN, ev_lnI, ev_lnL, ev_lnR, ev_lnN, ev_II, ev_IL, ev_IR, ev_IN, ev_LI, ev_LL, ev_LR, ev_LN, ev_RI, ev_RL, ev_RR, ev_RN, Nat.add_assoc, Nat.reduceAdd, Nat.add_left_cancel_iff, Nat.left_eq_add, Nat.add_eq_left, Nat.reduceEqDiff, reduceIte, if_true, if_false, Option.bind_some, ev_let]; omega)
  obtain ⟨s0, K0, i0, l0, ⟨r2, r3⟩, z0, z1⟩ := F
  have kg : pm_kd g a = 6 := K0.2.1.trans hk
  have hag : a < pm_sz g := by omega
  have km : pm_kd (pm_ma g 5 1 128 128) a = 6 := ((pe_ma g 5 1 128).1 a hag).1.trans kg
  have e : fX6_init h a = some (pm_setR (pm_ma g 5 1 128 128) a 4 (some (pm_sz g))) := by
    have e2 : fX6_init h a = fX6_init_b35 (pm_ma g 5 1 128 128) (pm_sz g) a := by
      rw [eg]
      simp only [fX6_init, fX6_init_b0, fX6_init_b15, fX6_init_b23, ev_szI, ev_szL, ev_szR, ev_szN, ev_kdI, ev_kdL, ev_kdR, ev_kdN, ev_lnI, ev_lnL, ev_lnR, ev_lnN, ev_II, ev_IL, ev_IR, ev_IN, ev_LI, ev_LL, ev_LR, ev_LN, ev_RI, ev_RL, ev_RR, ev_RN, Nat.add_assoc, Nat.reduceAdd, Nat.add_left_cancel_iff, Nat.left_eq_add, Nat.add_eq_left, Nat.reduceEqDiff, reduceIte, if_true, if_false, Option.bind_some, ev_let, pe_na ha, pe_na0 ha, hk]
    rw [e2, fX6_init_b35, if_pos km]
  obtain ⟨m1, m2, m3, m4, m5, m6, m7, m8, m9⟩ := pe_maset g 5 1 128 a 4 hag
  rw [s0] at e m1 m2 m3 m4 m5 m6 m7 m8 m9
  have K2 := fun x hx hxa => m2.2.2.2 x hx hxa
  refine ⟨_, e, m1, pe_K_t ha K0 m2 (Or.inl rfl), fun y => (m3 y).trans (i0 y), fun y => (m4 y).trans (l0 y), ⟨(m5 2).trans r2, (m5 3).trans r3, (m5 4).trans (if_pos rfl)⟩, pe_E_Z (K2 _ (by omega) (by omega)) z0, pe_E_Z (K2 _ (by omega) (by omega)) z1, m6, m7, m8, m9⟩
/-- a Frame -/
theorem cX3 {h : pm_H} {a p b c : Nat} (hz : pe_Z h a 3 0) (ha : a < pm_sz h) (hb : pm_kd h b = 0) (hc : pm_R h b 1 = some c) : ∃ h', fX3_init h a p b = some h' ∧ pm_sz h' = pm_sz h ∧ pe_K h h' a ∧ (∀ y, pm_I h' a y = 0) ∧ (∀ y, pm_L h' a y = 0) ∧ (pm_R h' a 0 = some p ∧ pm_R h' a 1 = some b ∧ pm_R h' a 2 = some c) := by
  have hk := hz.1
  have hba : (b = a) = False := eq_false (fun e => by rw [e, hk] at hb; cases hb)
  refine pe_ex (by
    simp only [fX3_init, ev_szI, ev_szL, ev_szR, ev_szN, ev_kdI, ev_kdL, ev_kdR, ev_kdN, ev_lnI, ev_lnL, ev_lnR, ev_lnN, ev_II, ev_IL, ev_IR, ev_IN, ev_LI, ev_LL, ev_LR, ev_LN, ev_RI, ev_RL, ev_RR, ev_RN, Nat.add_assoc, Nat.reduceAdd, Nat.add_left_cancel_iff, Nat.left_eq_add, Nat.add_eq_left, Nat.reduceEqDiff, reduceIte, if_true, if_false, Option.bind_some, ev_let, hk, hb, hba, hc]
    rfl) ?_
  refine ⟨?_, ⟨?_, ?_, ?_, fun x hx hxa => ⟨?_, ?_, fun y => ?_, fun y => ?_, fun y => ?_⟩⟩, fun y => ?_, fun y => ?_, ⟨?_, ?_, ?_⟩⟩
  all_goals first
    | (simp only [ev_szI, ev_szL, ev_szR, ev_szN, ev_kdI, ev_kdL, ev_kdR, ev_kdN, ev_lnI, ev_lnL, ev_lnR, ev_lnN, ev_II, ev_IL, ev_IR, ev_IN, ev_LI, ev_LL, ev_LR, ev_LN, ev_RI, ev_RL, ev_RR, ev_RN, Nat.add_assoc, Nat.reduceAdd, Nat.add_left_cancel_iff, Nat.left_eq_add, Nat.add_eq_left, Nat.reduceEqDiff, reduceIte, if_true, if_false, Option.bind_some, ev_let, hk, hz.2.2.1, hz.2.2.2.1]; done)
    | (simp only [ev_szI, ev_szL, ev_szR, ev_szN, ev_kdI, ev_kdL, ev_kdR, ev_kdN, ev_lnI, ev_lnL, ev_lnR, ev_lnN, ev_II, ev_IL, ev_IR, ev_IN, ev_LI, ev_LL, ev_LR, ev_LN, ev_RI, ev_RL, ev_RR, ev_RN, Nat.add_assoc, Nat.reduceAdd, Nat.add_left_cancel_iff, Nat.left_eq_add, Nat.add_eq_left, Nat.reduceEqDiff, reduceIte, if_true, if_false, Option.bind_some, ev_let, eq_false hxa]; done)
    | (simp only [ev_szI, ev_szL, ev_szR, ev_szN, ev_kdI, ev_kdL, ev_kdR, ev_kdN, ev_lnI, ev_lnL, ev_lnR, ev_lnN, ev_II, ev_IL, ev_IR, ev_IN, ev_LI, ev_LL, ev_LR, ev_LN, ev_RI, ev_RL, ev_RR, ev_RN, Nat.add_assoc, Nat.reduceAdd, Nat.add_left_cancel_iff, Nat.left_eq_add, Nat.add_eq_left, Nat.reduceEqDiff, reduceIte, if_true, if_false, Option.bind_some, ev_let]; omega)
/-- a Module of the bytes p -/
theorem cX7 {h : pm_H} {a p : Nat} (hz : pe_Z h a 7 0) (ha : a < pm_sz h) : ∃ h', fX7_init h a p = some h' ∧ pm_sz h' = pm_sz h + 12 ∧ pe_K h h' a ∧ (∀ y, pm_I h' a y = 0) ∧ (∀ y, pm_L h' a y = if y = 14 then -1 else if y = 13 then -1 else 0) ∧ (pm_R h' a 0 = some p ∧ pm_R h' a 1 = some (pm_sz h) ∧ pm_R h' a 2 = some (pm_sz h + 1) ∧ pm_R h' a 3 = some (pm_sz h + 2) ∧ pm_R h' a 4 = some (pm_sz h + 3) ∧ pm_R h' a 5 = some (pm_sz h + 4) ∧ pm_R h' a 6 = some (pm_sz h + 5) ∧ pm_R h' a 7 = some (pm_sz h + 6) ∧ pm_R h' a 8 = some (pm_sz h + 7) ∧ pm_R h' a 9 = some (pm_sz h + 8) ∧ pm_R h' a 10 = some (pm_sz h + 9) ∧ pm_R h' a 11 = some (pm_sz h + 10) ∧ pm_R h' a 12 = some (pm_sz h + 11)) ∧ (pm_kd h' (pm_sz h) = 34 ∧ pm_ln h' (pm_sz h) = 13 ∧ ∀ y, pm_I h' (pm_sz h) y = if y < 13 then -1 else 0) ∧ pe_Z h' (pm_sz h + 1) 36 0 ∧ pe_Z h' (pm_sz h + 2) 35 0 ∧ pe_Z h' (pm_sz h + 3) 35 0 ∧ pe_Z h' (pm_sz h + 4) 35 0 ∧ pe_Z h' (pm_sz h + 5) 35 0 ∧ pe_Z h' (pm_sz h + 6) 35 0 ∧ pe_Z h' (pm_sz h + 7) 34 0 ∧ pe_Z h' (pm_sz h + 8) 34 0 ∧ pe_Z h' (pm_sz h + 9) 34 0 ∧ pe_Z h' (pm_sz h + 10) 34 0 ∧ pe_Z h' (pm_sz h + 11) 38 0 := by
  have hk := hz.1
  have hm0 : ∀ g : pm_H, pm_ma g 4 2 0 0 = pm_new g 36 0 := fun _ => rfl
  refine ⟨_, eX7 hk ha, ?_⟩
  have F : pm_sz (iX7a h a p) = pm_sz h + 12 ∧ pe_K h (iX7a h a p) a ∧ (∀ y, pm_I (iX7a h a p) a y = 0) ∧ (∀ y, pm_L (iX7a h a p) a y = if y = 14 then -1 else if y = 13 then -1 else 0) ∧ (pm_R (iX7a h a p) a 0 = some p ∧ pm_R (iX7a h a p) a 1 = some (pm_sz h) ∧ pm_R (iX7a h a p) a 2 = some (pm_sz h + 1) ∧ pm_R (iX7a h a p) a 3 = some (pm_sz h + 2) ∧ pm_R (iX7a h a p) a 4 = some (pm_sz h + 3) ∧ pm_R (iX7a h a p) a 5 = some (pm_sz h + 4) ∧ pm_R (iX7a h a p) a 6 = some (pm_sz h + 5) ∧ pm_R (iX7a h a p) a 7 = some (pm_sz h + 6) ∧ pm_R (iX7a h a p) a 8 = some (pm_sz h + 7) ∧ pm_R (iX7a h a p) a 9 = some (pm_sz h + 8) ∧ pm_R (iX7a h a p) a 10 = some (pm_sz h + 9) ∧ pm_R (iX7a h a p) a 11 = some (pm_sz h + 10) ∧ pm_R (iX7a h a p) a 12 = some (pm_sz h + 11)) ∧ (pm_kd (iX7a h a p) (pm_sz h) = 34 ∧ pm_ln (iX7a h a p) (pm_sz h) = 13 ∧ ∀ y, pm_I (iX7a h a p) (pm_sz h) y = 0) ∧ pe_Z (iX7a h a p) (pm_sz h + 1) 36 0 ∧ pe_Z (iX7a h a p) (pm_sz h + 2) 35 0 ∧ pe_Z (iX7a h a p) (pm_sz h + 3) 35 0 ∧ pe_Z (iX7a h a p) (pm_sz h + 4) 35 0 ∧ pe_Z (iX7a h a p) (pm_sz h + 5) 35 0 ∧ pe_Z (iX7a h a p) (pm_sz h + 6) 35 0 ∧ pe_Z (iX7a h a p) (pm_sz h + 7) 34 0 ∧ pe_Z (iX7a h a p) (pm_sz h + 8) 34 0 ∧ pe_Z (iX7a h a p) (pm_sz h + 9) 34 0 ∧ pe_Z (iX7a h a p) (pm_sz h + 10) 34 0 ∧ pe_Z (iX7a h a p) (pm_sz h + 11) 38 0 := by
    refine ⟨?_, ⟨?_, ?_, ?_, fun x hx hxa => ⟨?_, ?_, fun y => ?_, fun y => ?_, fun y => ?_⟩⟩, fun y => ?_, fun y => ?_, ⟨?_, ?_, ?_, ?_, ?_, ?_, ?_, ?_, ?_, ?_, ?_, ?_, ?_⟩, ⟨?_, ?_, fun y => ?_⟩, ⟨?_, ?_, fun y => ?_, fun y => ?_, fun y => ?_⟩, ⟨?_, ?_, fun y => ?_, fun y => ?_, fun y => ?_⟩, ⟨?_, ?_, fun y => ?_, fun y => ?_, fun y => ?_⟩, ⟨?_, ?_, fun y => ?_, fun y => ?_, fun y => ?_⟩, ⟨?_, ?_, fun y => ?_, fun y => ?_, fun y => ?_⟩, ⟨?_, ?_, fun y => ?_, fun y => ?_, fun y => ?_⟩, ⟨?_, ?_, fun y => ?_, fun y => ?_, fun y => ?_⟩, ⟨?_, ?_, fun y => ?_, fun y => ?_, fun y => ?_⟩, ⟨?_, ?_, fun y => ?_, fun y => ?_, fun y => ?_⟩, ⟨?_, ?_, fun y => ?_, fun y => ?_, fun y => ?_⟩, ⟨?_, ?_, fun y => ?_, fun y => ?_, fun y => ?_⟩⟩
    all_goals first
      | (simp only [iX7a, hm0, ev_szI, ev_szL, ev_szR, ev_szN, ev_kdI, ev_kdL, ev_kdR, ev_kdN, ev_lnI, ev_lnL, ev_lnR, ev_lnN, ev_II, ev_IL, ev_IR, ev_IN, ev_LI, ev_LL, ev_LR, ev_LN, ev_RI, ev_RL, ev_RR, ev_RN, Nat.add_assoc, Nat.reduceAdd, Nat.add_left_cancel_iff, Nat.left_eq_add, Nat.add_eq_left, Nat.reduceEqDiff, reduceIte, if_true, if_false, Option.bind_some, ev_let, pe_na ha, pe_na0 ha, pe_nb ha, pe_nb0 ha, hk, hz.2.2.1, hz.2.2.2.1]; done)
      | (simp only [iX7a, hm0, ev_szI, ev_szL, ev_szR, ev_szN, ev_kdI, ev_kdL, ev_kdR, ev_kdN, ev_lnI, ev_lnL, ev_lnR, ev_lnN, ev_II, ev_IL, ev_IR, ev_IN, ev_LI, ev_LL, ev_LR, ev_LN, ev_RI, ev_RL, ev_RR, ev_RN, Nat.add_assoc, Nat.reduceAdd, Nat.add_left_cancel_iff, Nat.left_eq_add, Nat.add_eq_left, Nat.reduceEqDiff, reduceIte, if_true, if_false, Option.bind_some, ev_let, pe_na ha, pe_na0 ha, pe_nb ha, pe_nb0 ha, pe_na hx, pe_na0 hx, eq_false hxa]; done)
      | (simp only [iX7a, hm0, ev_szI, ev_szL, ev_szR, ev_szN, ev_kdI, ev_kdL, ev_kdR, ev_kdN, ev_lnI, ev_lnL, ev_lnR, ev_lnN, ev_II, ev_IL, ev_IR, ev_IN, ev_LI, ev_LL, ev_LR, ev_LN, ev_RI, ev_RL, ev_RR, ev_RN, Nat.add_assoc, Nat.reduceAdd, Nat.add_left_cancel_iff, Nat.left_eq_add, Nat.add_eq_left, Nat.reduceEqDiff, reduceIte, if_true, if_false, Option.bind_some, ev_let]; omega)
  obtain ⟨s0, K0, i0, l0, r0, ⟨c1, c2, c3⟩, z⟩ := F
  have fE : ∀ x, x ≠ pm_sz h → pe_E (iX7a h a p) (iX7 h a p) x := fun x hx => ⟨rfl, rfl, fun y => if_neg hx, fun _ => rfl, fun _ => rfl⟩
  have naz : a ≠ pm_sz h := Nat.ne_of_lt ha
  refine ⟨s0, ⟨K0.1, K0.2.1, K0.2.2.1, fun x hx hxa => pe_E_t (K0.2.2.2 x hx hxa) (fE x (Nat.ne_of_lt hx))⟩, fun y => ((fE a naz).2.2.1 y).trans (i0 y), l0, r0, ⟨c1, c2, fun y => ?_⟩, ?_⟩
  · show (if pm_sz h = pm_sz h then (if y < 13 then -1 else pm_I (iX7a h a p) (pm_sz h) y) else pm_I (iX7a h a p) (pm_sz h) y) = _
    rw [if_pos rfl, c3]
  · obtain ⟨z1, z2, z3, z4, z5, z6, z7, z8, z9, z10, z11⟩ := z
    exact ⟨pe_E_Z (fE _ (by omega)) z1, pe_E_Z (fE _ (by omega)) z2, pe_E_Z (fE _ (by omega)) z3, pe_E_Z (fE _ (by omega)) z4, pe_E_Z (fE _ (by omega)) z5, pe_E_Z (fE _ (by omega)) z6, pe_E_Z (fE _ (by omega)) z7, pe_E_Z (fE _ (by omega)) z8, pe_E_Z (fE _ (by omega)) z9, pe_E_Z (fE _ (by omega)) z10, pe_E_Z (fE _ (by omega)) z11⟩
