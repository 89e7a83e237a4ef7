/-! THE FIRST CALL: offer, run -/
theorem fr_74 {h : pm_H} (p : pj_0 h) : pm_R h 592 74 = some 634 ∧ pe_Z h 634 34 64 ∧ pm_R h 592 75 = some 635 ∧ pe_Z h 635 34 64 := ⟨(p.2.1.2.2.2.1 74).trans rfl, p.2.1.2.2.2.2.2.2.2.2.2.2.2.2.2.2.2.2.2.2.2.2.2.2.2.2.2.2.2.2.2.2.2.2.2.2.2.2.2.2.2.2.2.2.2.2.2.1, (p.2.1.2.2.2.1 75).trans rfl, p.2.1.2.2.2.2.2.2.2.2.2.2.2.2.2.2.2.2.2.2.2.2.2.2.2.2.2.2.2.2.2.2.2.2.2.2.2.2.2.2.2.2.2.2.2.2.2.2.1⟩
theorem fr_s3 {h : pm_H} (p : pj_0 h) (q : Nat → Int32) : ∃ h', lw_s3 q 0 592 h = some h' := by
  have hR := fr_R p
  have hK := fr_k592 p
  have i13 : pm_I h 0 13 = 0 := fr_i0 p 13
  have l64 : ((0 : Int32) < 64) = True := eq_true (by decide)
  have i73 : pm_I h 592 73 = 0 := (fr_i592 p 73).trans rfl
  have e64 : ((0 : Int32) = 64) = False := eq_false (by decide)
  unfold lw_s3
  have no : ∀ {r : Option (Int32 × pm_H)}, fX12_offer h 0 (q 1) (q 2) = some (-1, h) → fX16_offer h 592 (q 1) (q 2) = some (-1, h) → ∃ h', ((fX12_offer h 0 (q 1) (q 2)).bind fun r1 => if pm_kd r1.2 592 = 16 ∧ pl_R r1.2 then (fX16_offer r1.2 592 (q 1) (q 2)).bind fun r2 => if r1.1 = r2.1 ∧ pl_R r2.2 then some r2.2 else none else none) = some h' := fun e1 e2 => by
    rw [e1, Option.bind_some, if_pos ⟨hK, hR⟩, e2, Option.bind_some, if_pos ⟨rfl, hR⟩]
    exact ⟨_, rfl⟩
  by_cases e : q 1 = -1
  · by_cases ek : q 2 < 0
    · refine no (r := none) ?_ ?_
      · unfold fX12_offer
        rw [if_pos (fr_k0 p), i13, if_pos (by decide), if_pos e, if_pos ek]
      · unfold fX16_offer fX16_offer_b10
        rw [if_pos e, if_pos hK, i73, if_neg (by decide), if_neg (by decide), if_pos ek]
    · by_cases ek2 : q 2 ≤ 63
      · have z3 := fr_z3 p
        have m0 : (2 : Int32) * 0 = 0 := by decide
        have m1 : (0 : Int32) + 1 = 1 := by decide
        have n0 : ¬ (0 : Int32) < 0 := by decide
        have n1 : ¬ (1 : Int32) < 0 := by decide
        have g0 : ¬ Int32.ofNat 128 ≤ 0 := by decide
        have g1 : ¬ Int32.ofNat 128 ≤ 1 := by decide
        have c0 : (0 : Int32).toNatClampNeg = 0 := by decide
        have c1 : (1 : Int32).toNatClampNeg = 1 := by decide
        have p0 : pm_in 0 128 := pe_in (i := 0) (by decide) (by decide)
        have p1 : pm_in 1 128 := pe_in (i := 1) (by decide) (by decide)
        have s1 : fX12_setItem h 3 0 (-1) = some (pm_setI h 3 0 (-1)) := by
          unfold fX12_setItem
          rw [if_neg n0, if_pos z3.1, z3.2.1, if_neg g0, if_pos p0, c0]
        have s2 : fX12_setItem (pm_setI h 3 0 (-1)) 3 1 (q 2) = some (pm_setI (pm_setI h 3 0 (-1)) 3 1 (q 2)) := by
          unfold fX12_setItem
          rw [if_neg n1, ev_kdI, if_pos z3.1, ev_lnI, z3.2.1, if_neg g1, if_pos p1, c1]
        have e1 : fX12_offer h 0 (q 1) (q 2) = some (1, pm_setI (pm_setI (pm_setI h 3 0 (-1)) 3 1 (q 2)) 0 13 1) := by
          unfold fX12_offer fX12_offerOf
          simp only [fr_k0 p, fr_r0_12 p, i13, l64, e, if_neg ek, ek2, m0, m1, s1, s2, ev_kdI, ev_RI, ev_II, Option.bind_some, if_true, ev_let, Nat.reduceEqDiff, reduceIte]
        obtain ⟨r74, z74, r75, z75⟩ := fr_74 p
        generalize eg : pm_setI (pm_setI (pm_setI h 3 0 (-1)) 3 1 (q 2)) 0 13 1 = g at e1
        have gk : ∀ x, pm_kd g x = pm_kd h x := fun x => by rw [← eg]; rfl
        have gl : ∀ x, pm_ln g x = pm_ln h x := fun x => by rw [← eg]; rfl
        have gr : ∀ x y, pm_R g x y = pm_R h x y := fun x y => by rw [← eg]; rfl
        have gi : pm_I g 592 73 = 0 := by rw [← eg, ev_II, if_neg (by decide), ev_II, if_neg (by decide), ev_II, if_neg (by decide), i73]
        have gR : pl_R g := by rw [← eg]; exact hR
        have p64 : pm_in 0 64 = True := eq_true (pe_in (i := 0) (by decide) (by decide))
        have e10 : ((1 : Int32) = 0) = False := eq_false (by decide)
        have e2 : fX16_offer g 592 (q 1) (q 2) = some (1, pm_setI (pm_setI (pm_setI g 634 0 (-1)) 635 0 (q 2)) 592 73 1) := by
          unfold fX16_offer fX16_offer_b10 fX16_offer_b48 fX16_offer_b70
          simp only [e, gk, gl, gr, gi, hK, r74, r75, z74.1, z74.2.1, z75.1, z75.2.1, e64, e10, if_neg ek, ek2, c0, p64, m1, ev_kdI, ev_lnI, ev_RI, ev_II, Option.bind_some, if_true, if_false, ev_let, Nat.reduceEqDiff, reduceIte]
        rw [e1, Option.bind_some, if_pos ⟨(gk 592).trans hK, gR⟩, e2, Option.bind_some, if_pos ⟨rfl, gR⟩]
        exact ⟨_, rfl⟩
      · refine no (r := none) ?_ ?_
        · unfold fX12_offer
          rw [if_pos (fr_k0 p), i13, if_pos (by decide), if_pos e, if_neg ek, if_neg ek2]
        · unfold fX16_offer fX16_offer_b10
          rw [if_pos e, if_pos hK, i73, if_neg (by decide), if_neg (by decide), if_neg ek, if_neg ek2]
  · refine no (r := none) ?_ ?_
    · unfold fX12_offer
      simp only [fr_k0 p, i13, l64, if_neg e, fr_r0_10 p, (fr_st p).1, fr_at p, (fr_362 p).1, fr_ek p, if_true, Option.bind_some]
      rw [if_neg (by decide)]
    · unfold fX16_offer fX16_offer_b10
      rw [if_neg e, if_pos hK, i73, if_neg (by decide), if_pos rfl, fr_ix p]
      rfl
theorem fr_s7 {h : pm_H} (p : pj_0 h) (q : Nat → Int32) : ∃ h', lw_s7 q 0 592 h = some h' := by
  have hR := fr_R p
  have hK := fr_k592 p
  have i76 : pm_I h 592 76 = 0 := (fr_i592 p 76).trans rfl
  have e01 : ((0 : Int32) = 1) = False := eq_false (by decide)
  have e00 : (0 : Int32) + 0 = 0 := by decide
  unfold lw_s7
  by_cases e : q 1 < 0
  · have e1 : fX12_run h 0 (q 1) = some (-1, h) := by unfold fX12_run fX12_run_b0; rw [if_pos e]
    have e2 : fX16_run h 592 (q 1) = some (-1, h) := by unfold fX16_run; rw [if_pos e]
    rw [e1, Option.bind_some, if_pos ⟨hK, hR⟩, e2, Option.bind_some, if_pos ⟨rfl, hR⟩]
    exact ⟨_, rfl⟩
  · by_cases e2 : q 1 ≤ 100000
    · have a1 : fX5_advance h 376 (q 1) = some (0, pm_setI h 376 2 0) := by
        unfold fX5_advance
        rw [ev_lim]
        simp only [sX5_advance, tX5_advance_0, Option.bind_some]
        rw [ev_lim]
        by_cases e3 : q 1 ≤ 0
        · simp only [sX5_advance, tX5_advance_4, e3, (fr_mc p).1, fr_i376 p, if_true, ev_let, Option.bind_some, e00]
        · simp only [sX5_advance, tX5_advance_4, e3, (fr_mc p).1, fr_i376 p, if_true, if_false, ev_let, Option.bind_some, e00, e01]
      have e1 : fX12_run h 0 (q 1) = some (0, pm_setI h 376 2 0) := by
        unfold fX12_run fX12_run_b0 fX12_run_b20
        simp only [if_neg e, e2, fr_k0 p, fr_r0_11 p, (fr_mc p).1, a1, if_true, Option.bind_some]
      have k2 : pm_kd (pm_setI h 376 2 0) 592 = 16 := hK
      have i2 : pm_I (pm_setI h 376 2 0) 592 76 = 0 := by rw [ev_II, if_neg (by decide), i76]
      have e4 : fX16_run (pm_setI h 376 2 0) 592 (q 1) = some (0, pm_setI h 376 2 0) := by
        unfold fX16_run
        rw [if_neg e, if_pos e2, ev_lim]
        simp only [sX16_run, tX16_run_15, k2, i2, e01, if_true, if_false, Option.bind_some]
      rw [e1, Option.bind_some, if_pos ⟨k2, hR⟩, e4, Option.bind_some, if_pos ⟨rfl, hR⟩]
      exact ⟨_, rfl⟩
    · have e1 : fX12_run h 0 (q 1) = some (-1, h) := by unfold fX12_run fX12_run_b0; rw [if_neg e, if_neg e2]
      have e3 : fX16_run h 592 (q 1) = some (-1, h) := by unfold fX16_run; rw [if_neg e, if_neg e2]
      rw [e1, Option.bind_some, if_pos ⟨hK, hR⟩, e3, Option.bind_some, if_pos ⟨rfl, hR⟩]
      exact ⟨_, rfl⟩
