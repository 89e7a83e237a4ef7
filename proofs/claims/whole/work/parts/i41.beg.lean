/-! THE REFERENCE'S PLAN as it begins: what it says -/
set_option maxHeartbeats 2000000 in
theorem cX14c {h : pm_H} {a b n : Nat} (ka : pm_kd h a = 14) (ha : a < pm_sz h) (r2 : pm_R h a 2 = some b) (kb : pm_kd h b = 34) (lb : pm_ln h b = 13) (hb : b < pm_sz h) (hn : n ≤ 40960) : ∃ h', fX14_begin h a (Int32.ofNat n) = some h' ∧ pm_I h' a 3 = -1 ∧ pm_I h' a 4 = 0 ∧ pm_I h' a 8 = 0 ∧ pm_L h' a 14 = 0 ∧ pm_I h' a 15 = 0 ∧ pm_I h' a 17 = 0 ∧ pm_I h' a 21 = 0 ∧ pm_I h' a 24 = 0 ∧ pm_I h' a 28 = 0 ∧ pm_L h' a 33 = -1 ∧ pm_I h' a 34 = 0 ∧ pm_L h' a 42 = -1 ∧ pm_L h' a 43 = 0 ∧ pm_I h' a 44 = 0 ∧ pm_L h' a 50 = 0 ∧ (∀ i, i < 13 → pm_I h' b i = -1) ∧ (∀ y, pm_I h' (pm_sz h + 2) y = 0) ∧ (∀ y, y ≠ 0 → y ≠ 56 → y ≠ 57 → pm_R h' a y = pm_R h a y) := by
  have nab : a ≠ b := fun e => by rw [e, kb] at ka; cases ka
  have c0 : (Int32.ofNat n).toNatClampNeg = n := pe_cm (by omega)
  have o1 := pe_ok (m := n) (by omega)
  have b4 : (n * 4 ≤ 536870912) = True := eq_true (by omega)
  have b1 : (n * 1 ≤ 536870912) = True := eq_true (by omega)
  obtain ⟨w, ew⟩ : ∃ w, w = pm_setR (pm_new (pm_setR (pm_new (pm_setR (pm_new (pm_setI h a 1 (Int32.ofNat n)) 33 n) a 0 (some (pm_sz h))) 34 n) a 56 (some (pm_sz h + 1))) 34 n) a 57 (some (pm_sz h + 2)) := ⟨_, rfl⟩
  have T1 : fX14_begin h a (Int32.ofNat n) = pm_lim sX14_begin (.inr (.inr (.inr (.inr ((a, 0, w)))))) := by
    rw [ew]
    unfold fX14_begin
    rw [ev_lim]; simp only [sX14_begin, tX14_begin_0, ka, o1.1, c0, b1, not_false_eq_true, and_self, ev_szI, ev_szL, ev_szR, ev_szN, ev_kdI, ev_kdL, ev_kdR, ev_kdN, ev_lnI, ev_lnL, ev_lnR, ev_lnN, ev_II, ev_IL, ev_IR, ev_IN, ev_LI, ev_LL, ev_LR, ev_LN, ev_RI, ev_RL, ev_RR, ev_RN, Nat.add_assoc, Nat.reduceAdd, Nat.add_left_cancel_iff, Nat.left_eq_add, Nat.add_eq_left, Nat.reduceEqDiff, reduceIte, if_true, if_false, Option.bind_some, ev_let]
    rw [ev_lim]; simp only [sX14_begin, tX14_begin_9, ka, o1.1, c0, b4, not_false_eq_true, and_self, ev_szI, ev_szL, ev_szR, ev_szN, ev_kdI, ev_kdL, ev_kdR, ev_kdN, ev_lnI, ev_lnL, ev_lnR, ev_lnN, ev_II, ev_IL, ev_IR, ev_IN, ev_LI, ev_LL, ev_LR, ev_LN, ev_RI, ev_RL, ev_RR, ev_RN, Nat.add_assoc, Nat.reduceAdd, Nat.add_left_cancel_iff, Nat.left_eq_add, Nat.add_eq_left, Nat.reduceEqDiff, reduceIte, if_true, if_false, Option.bind_some, ev_let, pe_na ha, pe_na0 ha]
    rw [ev_lim]; simp only [sX14_begin, tX14_begin_16, ka, o1.1, c0, b4, not_false_eq_true, and_self, ev_szI, ev_szL, ev_szR, ev_szN, ev_kdI, ev_kdL, ev_kdR, ev_kdN, ev_lnI, ev_lnL, ev_lnR, ev_lnN, ev_II, ev_IL, ev_IR, ev_IN, ev_LI, ev_LL, ev_LR, ev_LN, ev_RI, ev_RL, ev_RR, ev_RN, Nat.add_assoc, Nat.reduceAdd, Nat.add_left_cancel_iff, Nat.left_eq_add, Nat.add_eq_left, Nat.reduceEqDiff, reduceIte, if_true, if_false, Option.bind_some, ev_let, pe_na ha, pe_na0 ha]
    rw [ev_lim]; simp only [sX14_begin, tX14_begin_23, ka, ev_szI, ev_szL, ev_szR, ev_szN, ev_kdI, ev_kdL, ev_kdR, ev_kdN, ev_lnI, ev_lnL, ev_lnR, ev_lnN, ev_II, ev_IL, ev_IR, ev_IN, ev_LI, ev_LL, ev_LR, ev_LN, ev_RI, ev_RL, ev_RR, ev_RN, Nat.add_assoc, Nat.reduceAdd, Nat.add_left_cancel_iff, Nat.left_eq_add, Nat.add_eq_left, Nat.reduceEqDiff, reduceIte, if_true, if_false, Option.bind_some, ev_let, pe_na ha, pe_na0 ha]
  have F : pm_sz w = pm_sz h + 3 ∧ pm_kd w a = 14 ∧ pm_ln w a = pm_ln h a ∧ (∀ x, x < pm_sz h → x ≠ a → pe_E h w x) ∧ pm_I w a 1 = Int32.ofNat n ∧ (∀ y, pm_R w a y = if y = 57 then some (pm_sz h + 2) else if y = 56 then some (pm_sz h + 1) else if y = 0 then some (pm_sz h) else pm_R h a y) ∧ (pm_kd w (pm_sz h) = 33 ∧ pm_ln w (pm_sz h) = n) ∧ (pm_kd w (pm_sz h + 1) = 34 ∧ pm_ln w (pm_sz h + 1) = n) ∧ (pm_kd w (pm_sz h + 2) = 34 ∧ pm_ln w (pm_sz h + 2) = n) := by
    rw [ew]
    refine ⟨?_, ?_, ?_, fun x hx hxa => ⟨?_, ?_, fun y => ?_, fun y => ?_, fun y => ?_⟩, ?_, fun y => ?_, ⟨?_, ?_⟩, ⟨?_, ?_⟩, ⟨?_, ?_⟩⟩
    all_goals first
      | (simp only [ev_szI, ev_szL, ev_szR, ev_szN, ev_kdI, ev_kdL, ev_kdR, ev_kdN, ev_lnI, ev_lnL, ev_lnR, ev_lnN, ev_II, ev_IL, ev_IR, ev_IN, ev_LI, ev_LL, ev_LR, ev_LN, ev_RI, ev_RL, ev_RR, ev_RN, Nat.add_assoc, Nat.reduceAdd, Nat.add_left_cancel_iff, Nat.left_eq_add, Nat.add_eq_left, Nat.reduceEqDiff, reduceIte, if_true, if_false, Option.bind_some, ev_let, pe_na ha, pe_na0 ha, pe_nb ha, pe_nb0 ha, ka]; done)
      | (simp only [ev_szI, ev_szL, ev_szR, ev_szN, ev_kdI, ev_kdL, ev_kdR, ev_kdN, ev_lnI, ev_lnL, ev_lnR, ev_lnN, ev_II, ev_IL, ev_IR, ev_IN, ev_LI, ev_LL, ev_LR, ev_LN, ev_RI, ev_RL, ev_RR, ev_RN, Nat.add_assoc, Nat.reduceAdd, Nat.add_left_cancel_iff, Nat.left_eq_add, Nat.add_eq_left, Nat.reduceEqDiff, reduceIte, if_true, if_false, Option.bind_some, ev_let, pe_na ha, pe_na0 ha, pe_nb ha, pe_nb0 ha, pe_na hx, pe_na0 hx, eq_false hxa]; done)
  obtain ⟨f1, f2, f3, f4, f5, f6, f7, f8, f9⟩ := F
  have z2 : ∀ y, pm_I w (pm_sz h + 2) y = 0 := fun y => by
    rw [ew]
    simp only [ev_szI, ev_szL, ev_szR, ev_szN, ev_kdI, ev_kdL, ev_kdR, ev_kdN, ev_lnI, ev_lnL, ev_lnR, ev_lnN, ev_II, ev_IL, ev_IR, ev_IN, ev_LI, ev_LL, ev_LR, ev_LN, ev_RI, ev_RL, ev_RR, ev_RN, Nat.add_assoc, Nat.reduceAdd, Nat.add_left_cancel_iff, Nat.left_eq_add, Nat.add_eq_left, Nat.reduceEqDiff, reduceIte, pe_nb ha, pe_nb0 ha]
  have wb := f4 b hb (Ne.symm nab)
  have L := cX14_l (l := w) (a := a) (b := b) nab f2 (by rw [f6 2]; exact r2) (wb.1.trans kb) (wb.2.1.trans lb)
  have G := pe_fIE w b 13 (-1)
  have vb : ∀ i, i < 13 → pm_I (pe_fI w b 13 (-1)) b i = -1 := fun i hi => by show (if b = b then (if i < 13 then (-1 : Int32) else pm_I w b i) else pm_I w b i) = -1; rw [if_pos rfl, if_pos hi]
  generalize pe_fI w b 13 (-1) = v at *
  obtain ⟨g1, g2, g3, g4, g5, g6, g7⟩ := G
  have ga := g4 a nab
  have kv : pm_kd v a = 14 := ga.1.trans f2
  have p13 : (13 : Int32) ≤ Int32.ofNat 13 := pe_ge (n := 13)
  rw [T1, L]
  refine pe_ex (by
    rw [ev_lim]
    simp only [sX14_begin, tX14_begin_28, if_pos p13, kv, if_true, Option.bind_some]
    rfl) ?_
  have i1 : pm_I v a 1 = Int32.ofNat n := (ga.2.2.1 1).trans f5
  have nba : b ≠ a := fun e => nab e.symm
  have s2a : pm_sz h + 2 ≠ a := by omega
  have s2b : pm_sz h + 2 ≠ b := by omega
  have vz := fun y => ((g4 _ s2b).2.2.1 y).trans (z2 y)
  refine ⟨?_, ?_, ?_, ?_, ?_, ?_, ?_, ?_, ?_, ?_, ?_, ?_, ?_, ?_, ?_, fun i hi => ?_, fun y => ?_, fun y y0 y1 y2 => ?_⟩
  iterate 15 simp only [ev_szI, ev_szL, ev_szR, ev_szN, ev_kdI, ev_kdL, ev_kdR, ev_kdN, ev_lnI, ev_lnL, ev_lnR, ev_lnN, ev_II, ev_IL, ev_IR, ev_IN, ev_LI, ev_LL, ev_LR, ev_LN, ev_RI, ev_RL, ev_RR, ev_RN, Nat.reduceEqDiff, reduceIte]
  · simp only [ev_szI, ev_szL, ev_szR, ev_szN, ev_kdI, ev_kdL, ev_kdR, ev_kdN, ev_lnI, ev_lnL, ev_lnR, ev_lnN, ev_II, ev_IL, ev_IR, ev_IN, ev_LI, ev_LL, ev_LR, ev_LN, ev_RI, ev_RL, ev_RR, ev_RN, if_neg nba]
    exact vb i hi
  · simp only [ev_szI, ev_szL, ev_szR, ev_szN, ev_kdI, ev_kdL, ev_kdR, ev_kdN, ev_lnI, ev_lnL, ev_lnR, ev_lnN, ev_II, ev_IL, ev_IR, ev_IN, ev_LI, ev_LL, ev_LR, ev_LN, ev_RI, ev_RL, ev_RR, ev_RN, if_neg s2a]
    exact vz y
  · simp only [ev_szI, ev_szL, ev_szR, ev_szN, ev_kdI, ev_kdL, ev_kdR, ev_kdN, ev_lnI, ev_lnL, ev_lnR, ev_lnN, ev_II, ev_IL, ev_IR, ev_IN, ev_LI, ev_LL, ev_LR, ev_LN, ev_RI, ev_RL, ev_RR, ev_RN, g6, f6, if_neg y0, if_neg y1, if_neg y2]
