/-! a Plan begins with n bytes -/
theorem cX14_l {l : pm_H} {a b : Nat} (nab : a ≠ b) (ka : pm_kd l a = 14) (ra : pm_R l a 2 = some b) (kb : pm_kd l b = 34) (lb : pm_ln l b = 13) : pm_lim sX14_begin (.inr (.inr (.inr (.inr ((a, 0, l)))))) = pm_lim sX14_begin (.inr (.inr (.inr (.inr ((a, Int32.ofNat 13, pe_fI l b 13 (-1))))))) := by
  have F := fun i => pe_fIE l b i (-1)
  refine Eq.trans (by rw [pe_fI0]; rfl) (ev_iter (s := sX14_begin) (fun i => (.inr (.inr (.inr (.inr ((a, Int32.ofNat i, pe_fI l b i (-1)))))))) 13 ?_)
  intro i hi
  have nl : ¬ (13 : Int32) ≤ Int32.ofNat i := pe_lt (n := 13) (by decide) hi
  rw [ev_lim]
  simp only [sX14_begin, tX14_begin_28, (F i).2.1, (F i).2.2.1, (F i).2.2.2.2.2.1 a _, ka, ra, kb, lb, if_true, Option.bind_some, if_neg nl, if_pos (pe_in (by decide) hi), pe_cl (n := 13) (by decide) hi, ev_let, pe_s, pe_fIs]
set_option maxHeartbeats 2000000 in
theorem cX14b {h : pm_H} {a b n : Nat} (ka : pm_kd h a = 14) (ha : a < pm_sz h) (r2 : pm_R h a 2 = some b) (kb : pm_kd h b = 34) (lb : pm_ln h b = 13) (hb : b < pm_sz h) (hn : n ≤ 40960) : ∃ h', fX14_begin h a (Int32.ofNat n) = some h' ∧ pm_sz h' = pm_sz h + 3 ∧ (∀ x, x < pm_sz h → x ≠ a → x ≠ b → pe_E h h' x) ∧ (pm_kd h' a = 14 ∧ pm_ln h' a = pm_ln h a ∧ pm_kd h' b = 34 ∧ pm_ln h' b = 13) ∧ pm_I h' a 1 = Int32.ofNat n ∧ (pm_R h' a 0 = some (pm_sz h) ∧ pm_R h' a 56 = some (pm_sz h + 1) ∧ pm_R h' a 57 = some (pm_sz h + 2)) ∧ (pm_kd h' (pm_sz h) = 33 ∧ pm_ln h' (pm_sz h) = n) ∧ (pm_kd h' (pm_sz h + 1) = 34 ∧ pm_ln h' (pm_sz h + 1) = n) ∧ (pm_kd h' (pm_sz h + 2) = 34 ∧ pm_ln h' (pm_sz h + 2) = n) := by
  have nab : a ≠ b := fun e => by rw [e, kb] at ka; cases ka
  have c0 : (Int32.ofNat n).toNatClampNeg = n := pe_cm (by omega)
  have o1 := pe_ok (m := n) (by omega)
  have b4 : (n * 4 ≤ 536870912) = True := eq_true (by omega)
  have b1 : (n * 1 ≤ 536870912) = True := eq_true (by omega)
  obtain ⟨w, ew⟩ : ∃ w, w = pm_setR (pm_new (pm_setR (pm_new (pm_setR (pm_new (pm_setI h a 1 (Int32.ofNat n)) 33 n) a 0 (some (pm_sz h))) 34 n) a 56 (some (pm_sz h + 1))) 34 n) a 57 (some (pm_sz h + 2)) := ⟨_, rfl⟩
  have T1 : fX14_begin h a (Int32.ofNat n) = pm_lim sX14_begin (.inr (.inr (.inr (.inr ((a, 0, w)))))) := by
    rw [ew]
    unfold fX14_begin
    rw [ev_lim]; simp only [sX14_begin, tX14_begin_0, ka, o1.1, c0, b1, not_false_eq_true, and_self, ev_szI, ev_szL, ev_szR, ev_szN, ev_kdI, ev_kdL, ev_kdR, ev_kdN, ev_lnI, ev_lnL, ev_lnR, ev_lnN, ev_II, ev_IL, ev_IR, ev_IN, ev_LI, ev_LL, ev_LR, ev_LN, ev_RI, ev_RL, ev_RR, ev_RN, Nat.add_assoc, Nat.reduceAdd, Nat.add_left_cancel_iff, Nat.left_eq_add, Nat.add_eq_left, Nat.reduceEqDiff, reduceIte, if_true, if_false, Option.bind_some, ev_let]
    rw [ev_lim]; simp only [sX14_begin, tX14_begin_9, ka, o1.1, c0, b4, not_false_eq_true, and_self, ev_szI, ev_szL, ev_szR, ev_szN, ev_kdI, ev_kdL, ev_kdR, ev_kdN, ev_lnI, ev_lnL, ev_lnR, ev_lnN, ev_II, ev_IL, ev_IR, ev_IN, ev_LI, ev_LL, ev_LR, ev_LN, ev_RI, ev_RL, ev_RR, ev_RN, Nat.add_assoc, Nat.reduceAdd, Nat.add_left_cancel_iff, Nat.left_eq_add, Nat.add_eq_left, Nat.reduceEqDiff, reduceIte, if_true, if_false, Option.bind_some, ev_let, pe_na ha, pe_na0 ha]
    rw [ev_lim]; simp only [sX14_begin, tX14_begin_16, ka, o1.1, c0, b4, not_false_eq_true, and_self, ev_szI, ev_szL, ev_szR, ev_szN, ev_kdI, ev_kdL, ev_kdR, ev_kdN, ev_lnI, ev_lnL, ev_lnR, ev_lnN, ev_II, ev_IL, ev_IR, ev_IN, ev_LI, ev_LL, ev_LR, ev_LN, ev_RI, ev_RL, ev_RR, ev_RN, Nat.add_assoc, Nat.reduceAdd, Nat.add_left_cancel_iff, Nat.left_eq_add, Nat.add_eq_left, Nat.reduceEqDiff, reduceIte, if_true, if_false, Option.bind_some, ev_let, pe_na ha, pe_na0 ha]
    rw [ev_lim]; simp only [sX14_begin, tX14_begin_23, ka, ev_szI, ev_szL, ev_szR, ev_szN, ev_kdI, ev_kdL, ev_kdR, ev_kdN, ev_lnI, ev_lnL, ev_lnR, ev_lnN, ev_II, ev_IL, ev_IR, ev_IN, ev_LI, ev_LL, ev_LR, ev_LN, ev_RI, ev_RL, ev_RR, ev_RN, Nat.add_assoc, Nat.reduceAdd, Nat.add_left_cancel_iff, Nat.left_eq_add, Nat.add_eq_left, Nat.reduceEqDiff, reduceIte, if_true, if_false, Option.bind_some, ev_let, pe_na ha, pe_na0 ha]
  have F : pm_sz w = pm_sz h + 3 ∧ pm_kd w a = 14 ∧ pm_ln w a = pm_ln h a ∧ (∀ x, x < pm_sz h → x ≠ a → pe_E h w x) ∧ pm_I w a 1 = Int32.ofNat n ∧ (∀ y, pm_R w a y = if y = 57 then some (pm_sz h + 2) else if y = 56 then some (pm_sz h + 1) else if y = 0 then some (pm_sz h) else pm_R h a y) ∧ (pm_kd w (pm_sz h) = 33 ∧ pm_ln w (pm_sz h) = n) ∧ (pm_kd w (pm_sz h + 1) = 34 ∧ pm_ln w (pm_sz h + 1) = n) ∧ (pm_kd w (pm_sz h + 2) = 34 ∧ pm_ln w (pm_sz h + 2) = n) := by
    rw [ew]
    refine ⟨?_, ?_, ?_, fun x hx hxa => ⟨?_, ?_, fun y => ?_, fun y => ?_, fun y => ?_⟩, ?_, fun y => ?_, ⟨?_, ?_⟩, ⟨?_, ?_⟩, ⟨?_, ?_⟩⟩
    all_goals first
      | (simp only [ev_szI, ev_szL, ev_szR, ev_szN, ev_kdI, ev_kdL, ev_kdR, ev_kdN, ev_lnI, ev_lnL, ev_lnR, ev_lnN, ev_II, ev_IL, ev_IR, ev_IN, ev_LI, ev_LL, ev_LR, ev_LN, ev_RI, ev_RL, ev_RR, ev_RN, Nat.add_assoc, Nat.reduceAdd, Nat.add_left_cancel_iff, Nat.left_eq_add, Nat.add_eq_left, Nat.reduceEqDiff, reduceIte, if_true, if_false, Option.bind_some, ev_let, pe_na ha, pe_na0 ha, pe_nb ha, pe_nb0 ha, ka]; done)
      | (simp only [ev_szI, ev_szL, ev_szR, ev_szN, ev_kdI, ev_kdL, ev_kdR, ev_kdN, ev_lnI, ev_lnL, ev_lnR, ev_lnN, ev_II, ev_IL, ev_IR, ev_IN, ev_LI, ev_LL, ev_LR, ev_LN, ev_RI, ev_RL, ev_RR, ev_RN, Nat.add_assoc, Nat.reduceAdd, Nat.add_left_cancel_iff, Nat.left_eq_add, Nat.add_eq_left, Nat.reduceEqDiff, reduceIte, if_true, if_false, Option.bind_some, ev_let, pe_na ha, pe_na0 ha, pe_nb ha, pe_nb0 ha, pe_na hx, pe_na0 hx, eq_false hxa]; done)
  obtain ⟨f1, f2, f3, f4, f5, f6, f7, f8, f9⟩ := F
  have wb := f4 b hb (Ne.symm nab)
  have L := cX14_l (l := w) (a := a) (b := b) nab f2 (by rw [f6 2]; exact r2) (wb.1.trans kb) (wb.2.1.trans lb)
  have G := pe_fIE w b 13 (-1)
  generalize pe_fI w b 13 (-1) = v at *
  obtain ⟨g1, g2, g3, g4, g5, g6, g7⟩ := G
  have ga := g4 a nab
  have kv : pm_kd v a = 14 := ga.1.trans f2
  have p13 : (13 : Int32) ≤ Int32.ofNat 13 := pe_ge (n := 13)
  rw [T1, L]
  refine pe_ex (by
    rw [ev_lim]
    simp only [sX14_begin, tX14_begin_28, if_pos p13, kv, if_true, Option.bind_some]
    rfl) ?_
  have i1 : pm_I v a 1 = Int32.ofNat n := (ga.2.2.1 1).trans f5
  refine ⟨?_, fun x hx hxa hxb => ?_, ⟨?_, ?_, ?_, ?_⟩, ?_, ⟨?_, ?_, ?_⟩, ⟨?_, ?_⟩, ⟨?_, ?_⟩, ⟨?_, ?_⟩⟩
  · simp only [ev_szI, ev_szL, g1, f1]
  · refine pe_E_t (f4 x hx hxa) (pe_E_t (g4 x hxb) ⟨?_, ?_, fun y => ?_, fun y => ?_, fun y => ?_⟩)
    all_goals simp only [ev_szI, ev_szL, ev_szR, ev_szN, ev_kdI, ev_kdL, ev_kdR, ev_kdN, ev_lnI, ev_lnL, ev_lnR, ev_lnN, ev_II, ev_IL, ev_IR, ev_IN, ev_LI, ev_LL, ev_LR, ev_LN, ev_RI, ev_RL, ev_RR, ev_RN, Nat.add_assoc, Nat.reduceAdd, Nat.add_left_cancel_iff, Nat.left_eq_add, Nat.add_eq_left, Nat.reduceEqDiff, reduceIte, if_true, if_false, Option.bind_some, ev_let, eq_false hxa]
  · simp only [ev_kdI, ev_kdL, kv]
  · simp only [ev_lnI, ev_lnL, g3, f3]
  · simp only [ev_kdI, ev_kdL, g2, wb.1, kb]
  · simp only [ev_lnI, ev_lnL, g3, wb.2.1, lb]
  · simp only [ev_szI, ev_szL, ev_szR, ev_szN, ev_kdI, ev_kdL, ev_kdR, ev_kdN, ev_lnI, ev_lnL, ev_lnR, ev_lnN, ev_II, ev_IL, ev_IR, ev_IN, ev_LI, ev_LL, ev_LR, ev_LN, ev_RI, ev_RL, ev_RR, ev_RN, Nat.add_assoc, Nat.reduceAdd, Nat.add_left_cancel_iff, Nat.left_eq_add, Nat.add_eq_left, Nat.reduceEqDiff, reduceIte, if_true, if_false, Option.bind_some, ev_let, i1]
  · simp only [ev_RI, ev_RL, g6, f6]; rfl
  · simp only [ev_RI, ev_RL, g6, f6]; rfl
  · simp only [ev_RI, ev_RL, g6, f6]; rfl
  · simp only [ev_kdI, ev_kdL, g2, f7.1]
  · simp only [ev_lnI, ev_lnL, g3, f7.2]
  · simp only [ev_kdI, ev_kdL, g2, f8.1]
  · simp only [ev_lnI, ev_lnL, g3, f8.2]
  · simp only [ev_kdI, ev_kdL, g2, f9.1]
  · simp only [ev_lnI, ev_lnL, g3, f9.2]
