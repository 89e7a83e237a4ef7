/-! EVALUATION: what a lookup gives behind an update -/
section EV
variable (h : pm_H) (a k q n x y : Nat)
theorem ev_szI (v : Int32) : pm_sz (pm_setI h a k v) = pm_sz h := rfl
theorem ev_szL (v : Int64) : pm_sz (pm_setL h a k v) = pm_sz h := rfl
theorem ev_szR (v : Option Nat) : pm_sz (pm_setR h a k v) = pm_sz h := rfl
theorem ev_kdI (v : Int32) : pm_kd (pm_setI h a k v) x = pm_kd h x := rfl
theorem ev_kdL (v : Int64) : pm_kd (pm_setL h a k v) x = pm_kd h x := rfl
theorem ev_kdR (v : Option Nat) : pm_kd (pm_setR h a k v) x = pm_kd h x := rfl
theorem ev_lnI (v : Int32) : pm_ln (pm_setI h a k v) x = pm_ln h x := rfl
theorem ev_lnL (v : Int64) : pm_ln (pm_setL h a k v) x = pm_ln h x := rfl
theorem ev_lnR (v : Option Nat) : pm_ln (pm_setR h a k v) x = pm_ln h x := rfl
theorem ev_II (v : Int32) : pm_I (pm_setI h a k v) x y = if x = a then (if y = k then v else pm_I h x y) else pm_I h x y := rfl
theorem ev_IL (v : Int64) : pm_I (pm_setL h a k v) x y = pm_I h x y := rfl
theorem ev_IR (v : Option Nat) : pm_I (pm_setR h a k v) x y = pm_I h x y := rfl
theorem ev_LI (v : Int32) : pm_L (pm_setI h a k v) x y = pm_L h x y := rfl
theorem ev_LL (v : Int64) : pm_L (pm_setL h a k v) x y = if x = a then (if y = k then v else pm_L h x y) else pm_L h x y := rfl
theorem ev_LR (v : Option Nat) : pm_L (pm_setR h a k v) x y = pm_L h x y := rfl
theorem ev_RI (v : Int32) : pm_R (pm_setI h a k v) x y = pm_R h x y := rfl
theorem ev_RL (v : Int64) : pm_R (pm_setL h a k v) x y = pm_R h x y := rfl
theorem ev_RR (v : Option Nat) : pm_R (pm_setR h a k v) x y = if x = a then (if y = k then v else pm_R h x y) else pm_R h x y := rfl
theorem ev_szN : pm_sz (pm_new h q n) = pm_sz h + 1 := rfl
theorem ev_kdN : pm_kd (pm_new h q n) x = if x = pm_sz h then q else pm_kd h x := rfl
theorem ev_lnN : pm_ln (pm_new h q n) x = if x = pm_sz h then n else pm_ln h x := rfl
theorem ev_IN : pm_I (pm_new h q n) x y = if x = pm_sz h then 0 else pm_I h x y := rfl
theorem ev_LN : pm_L (pm_new h q n) x y = if x = pm_sz h then 0 else pm_L h x y := rfl
theorem ev_RN : pm_R (pm_new h q n) x y = if x = pm_sz h then none else pm_R h x y := rfl
end EV
/-- rows of rows -/
theorem ev_ma (h : pm_H) (t u N : Nat) : ∀ i, pm_sz (pm_ma h t u N i) = pm_sz h + 1 + i ∧ (∀ x, pm_kd (pm_ma h t u N i) x = if x = pm_sz h then t + 32 else if pm_sz h < x ∧ x < pm_sz h + 1 + i then u + 32 else pm_kd h x) ∧ (∀ x, pm_ln (pm_ma h t u N i) x = if x = pm_sz h then N else if pm_sz h < x ∧ x < pm_sz h + 1 + i then 0 else pm_ln h x) ∧ (∀ x y, pm_I (pm_ma h t u N i) x y = if pm_sz h ≤ x ∧ x < pm_sz h + 1 + i then 0 else pm_I h x y) ∧ (∀ x y, pm_L (pm_ma h t u N i) x y = if pm_sz h ≤ x ∧ x < pm_sz h + 1 + i then 0 else pm_L h x y) ∧ (∀ x y, pm_R (pm_ma h t u N i) x y = if x = pm_sz h then (if y < i then some (pm_sz h + 1 + y) else none) else if pm_sz h < x ∧ x < pm_sz h + 1 + i then none else pm_R h x y) := by
  intro i
  induction i with
  | zero =>
    refine ⟨rfl, fun x => ?_, fun x => ?_, fun x y => ?_, fun x y => ?_, fun x y => ?_⟩
    · show (if x = pm_sz h then _ else _) = _
      by_cases e : x = pm_sz h
      · rw [if_pos e, if_pos e]
      · rw [if_neg e, if_neg e, if_neg (by omega)]
    · show (if x = pm_sz h then _ else _) = _
      by_cases e : x = pm_sz h
      · rw [if_pos e, if_pos e]
      · rw [if_neg e, if_neg e, if_neg (by omega)]
    · show (if x = pm_sz h then _ else _) = _
      by_cases e : x = pm_sz h
      · rw [if_pos e, if_pos (by omega)]
      · rw [if_neg e, if_neg (by omega)]
    · show (if x = pm_sz h then _ else _) = _
      by_cases e : x = pm_sz h
      · rw [if_pos e, if_pos (by omega)]
      · rw [if_neg e, if_neg (by omega)]
    · show (if x = pm_sz h then _ else _) = _
      by_cases e : x = pm_sz h
      · rw [if_pos e, if_pos e, if_neg (by omega)]
      · rw [if_neg e, if_neg e, if_neg (by omega)]
  | succ i ih =>
    obtain ⟨i1, i2, i3, i4, i5, i6⟩ := ih
    have es : pm_sz (pm_ma h t u N (i + 1)) = pm_sz (pm_ma h t u N i) + 1 := rfl
    refine ⟨by rw [es, i1]; omega, fun x => ?_, fun x => ?_, fun x y => ?_, fun x y => ?_, fun x y => ?_⟩
    · show (if x = pm_sz (pm_ma h t u N i) then u + 32 else pm_kd (pm_ma h t u N i) x) = _
      rw [i1, i2]
      by_cases e : x = pm_sz h + 1 + i
      · rw [if_pos e, if_neg (by omega), if_pos (by omega)]
      · rw [if_neg e]
        by_cases e2 : x = pm_sz h
        · rw [if_pos e2, if_pos e2]
        · rw [if_neg e2, if_neg e2]
          by_cases e3 : pm_sz h < x ∧ x < pm_sz h + 1 + i
          · rw [if_pos e3, if_pos (by omega)]
          · rw [if_neg e3, if_neg (by omega)]
    · show (if x = pm_sz (pm_ma h t u N i) then 0 else pm_ln (pm_ma h t u N i) x) = _
      rw [i1, i3]
      by_cases e : x = pm_sz h + 1 + i
      · rw [if_pos e, if_neg (by omega), if_pos (by omega)]
      · rw [if_neg e]
        by_cases e2 : x = pm_sz h
        · rw [if_pos e2, if_pos e2]
        · rw [if_neg e2, if_neg e2]
          by_cases e3 : pm_sz h < x ∧ x < pm_sz h + 1 + i
          · rw [if_pos e3, if_pos (by omega)]
          · rw [if_neg e3, if_neg (by omega)]
    · show (if x = pm_sz (pm_ma h t u N i) then 0 else pm_I (pm_ma h t u N i) x y) = _
      rw [i1, i4]
      by_cases e : x = pm_sz h + 1 + i
      · rw [if_pos e, if_pos (by omega)]
      · rw [if_neg e]
        by_cases e3 : pm_sz h ≤ x ∧ x < pm_sz h + 1 + i
        · rw [if_pos e3, if_pos (by omega)]
        · rw [if_neg e3, if_neg (by omega)]
    · show (if x = pm_sz (pm_ma h t u N i) then 0 else pm_L (pm_ma h t u N i) x y) = _
      rw [i1, i5]
      by_cases e : x = pm_sz h + 1 + i
      · rw [if_pos e, if_pos (by omega)]
      · rw [if_neg e]
        by_cases e3 : pm_sz h ≤ x ∧ x < pm_sz h + 1 + i
        · rw [if_pos e3, if_pos (by omega)]
        · rw [if_neg e3, if_neg (by omega)]
    · show (if x = pm_sz h then (if y = i then some (pm_sz (pm_ma h t u N i)) else (if x = pm_sz (pm_ma h t u N i) then none else pm_R (pm_ma h t u N i) x y)) else (if x = pm_sz (pm_ma h t u N i) then none else pm_R (pm_ma h t u N i) x y)) = _
      rw [i1, i6]
      repeat' split
      all_goals first | rfl | omega | (exfalso; omega) | (congr 1; omega)
theorem ev_lim {σ ρ : Type} (s : σ → Option (σ ⊕ ρ)) (x : σ) : pm_lim s x = (s x).bind fun z => match z with
    | .inl y => pm_lim s y
    | .inr r => some r := by
  cases e : s x with
  | none =>
    cases hl : pm_lim s x with
    | none => rfl
    | some r =>
      obtain ⟨n, hn⟩ := pm_lim_iter hl
      cases n with
      | zero => cases hn
      | succ n =>
        have : (s x).bind _ = some r := hn
        rw [e] at this
        cases this
  | some z =>
    cases z with
    | inl y => exact pm_lim_l e
    | inr r => exact pm_lim_r e
theorem ev_let {α β : Type} (e : α) (k : α → β) : pm_let e k = k e := rfl
/-! the small constructors -/
theorem ev_X6 {h : pm_H} {a : Nat} (hk : pm_kd h a = 6) (ha : a < pm_sz h) : fX6_init h a = some (pm_setR (pm_ma (pm_setR (pm_new (pm_setR (pm_new (pm_setI h a 1 8) 34 16) a 2 (some (pm_sz h))) 35 16) a 3 (some (pm_sz h + 1))) 5 1 128 128) a 4 (some (pm_sz h + 2))) := by
  have e0 : a ≠ pm_sz h := Nat.ne_of_lt ha
  have e1 : a ≠ pm_sz h + 1 := by omega
  have e2 : a ≠ pm_sz h + 1 + 1 := by omega
  have e3 : ¬ (pm_sz h + 1 + 1 < a ∧ a < pm_sz h + 1 + 1 + 1 + 128) := by omega
  simp only [fX6_init, fX6_init_b0, fX6_init_b15, fX6_init_b23, fX6_init_b35, ev_kdI, ev_kdR, ev_kdN, ev_szI, ev_szR, ev_szN, (ev_ma _ _ _ _ _).2.1, hk, if_true, if_neg e0, if_neg e1, if_neg e2, if_neg e3]
