/-! THE FIRST CALL, more -/
theorem ev_ex {α : Type} {c : Prop} [Decidable c] {a b : Option α} (ha : ∃ v, a = some v) (hb : ∃ v, b = some v) : ∃ v, (if c then a else b) = some v := by
  by_cases e : c
  · rw [if_pos e]; exact ha
  · rw [if_neg e]; exact hb
theorem fr_pR {h : pm_H} (p : pj_0 h) (a k b l : Nat) (v w : Int32) : pl_R (pm_setI h a k v) ∧ pl_R (pm_setI (pm_setI h a k v) b l w) := have r := fr_R p; ⟨r, r⟩
theorem fr_s4 {h : pm_H} (p : pj_0 h) (q : Nat → Int32) : ∃ h', lw_s4 q 0 592 h = some h' := by
  have i3 : pm_I h 592 3 = 0 := (fr_i592 p 3).trans rfl
  have e1 : fX12_make h 0 (q 1) = some (-1, h) := by
    unfold fX12_make fX12_make_b0
    by_cases e : q 1 < 0
    · rw [if_pos e]
    · rw [if_neg e, if_pos (fr_k0 p), fr_i0 p 4, if_pos (Int32.not_lt.mp e)]
  have e2 : fX16_make h 592 (q 1) = some (-1, h) := by
    unfold fX16_make
    rw [ev_lim]
    by_cases e : q 1 < 0
    · simp only [sX16_make, tX16_make_0, if_pos e, Option.bind_some]
    · simp only [sX16_make, tX16_make_0, if_neg e, if_pos (fr_k592 p), i3, Option.bind_some]
  unfold lw_s4
  rw [e1, Option.bind_some, if_pos ⟨fr_k592 p, fr_R p⟩, e2, Option.bind_some, if_pos ⟨rfl, fr_R p⟩]
  exact ⟨_, rfl⟩
theorem fr_s10 {h : pm_H} (p : pj_0 h) (q : Nat → Int32) : ∃ h', lw_s10 q 0 592 h = some h' := by
  have tb : pm_R h 182 4 = some 183 ∧ pm_kd h 183 = 11 ∧ pm_I h 183 1 = 1024 := by
    obtain ⟨_, _, _, ⟨e, _⟩, ⟨k, i, _⟩, _⟩ := fr_st p
    exact ⟨e, k, i 1⟩
  have mb : pm_R h 182 5 = some 220 ∧ pm_kd h 220 = 6 ∧ pm_I h 220 1 = 8 := by
    obtain ⟨_, _, _, ⟨_, e, _⟩, _, _, ⟨k, i, _⟩, _⟩ := fr_st p
    exact ⟨e, k, i 1⟩
  have e5 : ((0 : Int32) = 5) = False := eq_false (by decide)
  have hE : fX12_state h 0 (q 1) = fX16_state h 592 (q 1) := by
    unfold fX12_state fX16_state
    simp only [fr_k0 p, fr_r0_10 p, fr_r0_11 p, (fr_mc p).1, (fr_st p).1, fr_i376 p, fr_i0 p, fr_i182 p, fr_k592 p, fr_i592 p, fr_runs p, tb.1, tb.2.1, tb.2.2, mb.1, mb.2.1, mb.2.2, if_true, Option.bind_some, Nat.reduceEqDiff, if_false, reduceIte, e5]
  have hS : ∃ v, fX16_state h 592 (q 1) = some v := by
    unfold fX16_state
    simp only [fr_k592 p, fr_i592 p, fr_runs p, if_true, Option.bind_some, Nat.reduceEqDiff, if_false, reduceIte, e5]
    repeat (first | exact ⟨_, rfl⟩ | refine ev_ex ⟨_, rfl⟩ ?_)
  obtain ⟨v, e2⟩ := hS
  have e1 := hE.trans e2
  unfold lw_s10
  rw [e1, Option.bind_some, if_pos ⟨fr_k592 p, fr_R p⟩, e2, Option.bind_some, if_pos ⟨rfl, fr_R p⟩]
  exact ⟨_, rfl⟩
theorem fr_s12 {h : pm_H} (p : pj_0 h) (q : Nat → Int32) : ∃ h', lw_s12 q 0 592 h = some h' := by
  have i44 : pm_I h 592 44 = 0 := (fr_i592 p 44).trans rfl
  unfold lw_s12
  by_cases e : (0 : Int32) ≤ q 1
  · have e1 : fX12_tier h 0 (q 1) = some (0, pm_setI h 376 5 (q 1)) := by
      unfold fX12_tier
      simp only [if_pos e, fr_k0 p, fr_r0_11 p, (fr_mc p).1, fr_i376 p, if_true, Option.bind_some, ev_let]
    have hR := fr_R p
    have hK := fr_k592 p
    have k2 : pm_kd (pm_setI h 376 5 (q 1)) 592 = 16 := hK
    have i2 : pm_I (pm_setI h 376 5 (q 1)) 592 44 = 0 := by rw [ev_II, if_neg (by decide), i44]
    have e2 : fX16_tier (pm_setI h 376 5 (q 1)) 592 (q 1) = some (0, pm_setI (pm_setI h 376 5 (q 1)) 592 44 (q 1)) := by
      unfold fX16_tier
      simp only [if_pos e, k2, i2, if_true, ev_let]
    rw [e1, Option.bind_some, if_pos ⟨k2, hR⟩, e2, Option.bind_some, if_pos ⟨rfl, hR⟩]
    exact ⟨_, rfl⟩
  · have e1 : fX12_tier h 0 (q 1) = some (-1, h) := by
      unfold fX12_tier
      rw [if_neg e]
    have e2 : fX16_tier h 592 (q 1) = some (-1, h) := by
      unfold fX16_tier
      rw [if_neg e]
    rw [e1, Option.bind_some, if_pos ⟨fr_k592 p, fr_R p⟩, e2, Option.bind_some, if_pos ⟨rfl, fr_R p⟩]
    exact ⟨_, rfl⟩
theorem fr_82 {h : pm_H} (p : pj_0 h) : ∃ c, pm_R h 592 82 = some c ∧ c ≠ 592 ∧ c ≠ 4 ∧ c ≠ 0 ∧ pm_kd h c = 35 ∧ pm_ln h c = 16 := by
  have r : pm_R h 592 82 = some (593 + 43) := (p.2.1.2.2.2.1 82).trans rfl
  have z : pe_Z h (593 + 43) 35 16 := p.2.1.2.2.2.2.2.2.2.2.2.2.2.2.2.2.2.2.2.2.2.2.2.2.2.2.2.2.2.2.2.2.2.2.2.2.2.2.2.2.2.2.2.2.2.2.2.2.2.1
  exact ⟨_, r, by decide, by decide, by decide, z.1, z.2.1⟩
theorem fr_s5 {h : pm_H} (p : pj_0 h) (q : Nat → Int32) : ∃ h', lw_s5 q 0 592 h = some h' := by
  obtain ⟨c, rc, n1, n2, n3, kc, lc⟩ := fr_82 p
  have z4 := fr_z4 p
  have i81 : pm_I h 592 81 = 0 := (fr_i592 p 81).trans rfl
  have c0 : (0 : Int32).toNatClampNeg = 0 := by decide
  have p0 : pm_in 0 16 = True := eq_true (pe_in (i := 0) (by decide) (by decide))
  have l0 : ((0 : Int32) < Int32.ofNat 16) = True := eq_true (by decide)
  have a1 : (0 : Int32) + 1 = 1 := by decide
  unfold lw_s5
  generalize (((q 1).toInt64 <<< ((32 : Int32).toInt64 &&& 63)) ||| ((q 2).toInt64 &&& 4294967295)) = b
  have e1 : fX12_argument h 0 b = some (1, pm_setI (pm_setL h 4 0 b) 0 15 1) := by
    unfold fX12_argument
    simp only [fr_k0 p, fr_r0_14 p, z4.1, z4.2.1, fr_i0 p, ev_IL, ev_II, c0, p0, l0, a1, if_true, Option.bind_some, ev_let]
  have hR := fr_R p
  have hK := fr_k592 p
  have k2 : pm_kd (pm_setI (pm_setL h 4 0 b) 0 15 1) 592 = 16 := hK
  have i2 : pm_I (pm_setI (pm_setL h 4 0 b) 0 15 1) 592 81 = 0 := by rw [ev_II, if_neg (by decide), ev_IL, i81]
  have r2 : pm_R (pm_setI (pm_setL h 4 0 b) 0 15 1) 592 82 = some c := rc
  have k3 : pm_kd (pm_setI (pm_setL h 4 0 b) 0 15 1) c = 35 := kc
  have l3 : pm_ln (pm_setI (pm_setL h 4 0 b) 0 15 1) c = 16 := lc
  have e16 : ((0 : Int32) = 16) = False := eq_false (by decide)
  have e2 : fX16_argument (pm_setI (pm_setL h 4 0 b) 0 15 1) 592 b = some (1, pm_setI (pm_setL (pm_setI (pm_setL h 4 0 b) 0 15 1) c 0 b) 592 81 1) := by
    unfold fX16_argument
    simp only [k2, i2, r2, k3, l3, e16, c0, p0, if_true, if_false, Option.bind_some, ev_let]
    rw [ev_IL, i2, a1, ev_II, if_pos rfl, if_pos rfl]
  rw [e1, Option.bind_some, if_pos ⟨k2, hR⟩, e2, Option.bind_some, if_pos ⟨rfl, hR⟩]
  exact ⟨_, rfl⟩
