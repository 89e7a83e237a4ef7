/-! CONSTRUCTORS, sixth: Checker, whole -/
set_option maxHeartbeats 4000000 in
theorem cX1 {h : pm_H} {a r n : Nat} (hz : pe_Z h a 1 0) (ha : a < pm_sz h) : ∃ h', fX1_init h a r n = some h' ∧ pm_sz h' = pm_sz h + 159 ∧ pe_K h h' a ∧ (∀ y, pm_I h' a y = 0) ∧ (∀ y, pm_L h' a y = 0) ∧ (pm_R h' a 2 = some n ∧ pm_R h' a 3 = some r ∧ pm_R h' a 4 = some (pm_sz h) ∧ pm_R h' a 5 = some (pm_sz h + 1) ∧ pm_R h' a 9 = some (pm_sz h + 2) ∧ pm_R h' a 11 = some (pm_sz h + 3) ∧ pm_R h' a 13 = some (pm_sz h + 4) ∧ pm_R h' a 15 = some (pm_sz h + 5) ∧ pm_R h' a 16 = some (pm_sz h + 6) ∧ pm_R h' a 17 = some (pm_sz h + 135)) ∧ (pe_Z h' (pm_sz h) 32 0 ∧ pe_Z h' (pm_sz h + 1) 34 1000 ∧ pe_Z h' (pm_sz h + 2) 34 1400 ∧ pe_Z h' (pm_sz h + 3) 34 1016 ∧ pe_Z h' (pm_sz h + 4) 34 2000 ∧ pe_Z h' (pm_sz h + 5) 34 16) ∧ (pm_kd h' (pm_sz h + 6) = 36 ∧ pm_ln h' (pm_sz h + 6) = 128 ∧ ∀ y, y < 128 → pm_R h' (pm_sz h + 6) y = if 111 ≤ y ∧ y < 111 + 17 then some (pm_sz h + 142 + (y - 111)) else if y = 64 then some (pm_sz h + 141) else some (pm_sz h + 7 + y)) ∧ (∀ i, i < 128 → pe_Z h' (pm_sz h + 7 + i) 34 0) ∧ (pm_kd h' (pm_sz h + 135) = 0 ∧ (∀ y, pm_I h' (pm_sz h + 135) y = 0) ∧ pm_R h' (pm_sz h + 135) 0 = some (pm_sz h + 136) ∧ pm_R h' (pm_sz h + 135) 1 = some (pm_sz h + 140) ∧ pm_R h' (pm_sz h + 135) 5 = some (pm_sz h + 137) ∧ pm_R h' (pm_sz h + 135) 7 = some (pm_sz h + 138) ∧ pm_R h' (pm_sz h + 135) 8 = some (pm_sz h + 139)) ∧ (pe_Z h' (pm_sz h + 136) 34 2 ∧ pe_Z h' (pm_sz h + 137) 34 0 ∧ pe_Z h' (pm_sz h + 138) 34 0 ∧ pe_Z h' (pm_sz h + 139) 35 0 ∧ pe_Z h' (pm_sz h + 140) 34 0 ∧ pe_Z h' (pm_sz h + 141) 34 2) ∧ (∀ j, j < 17 → pm_kd h' (pm_sz h + 142 + j) = 34 ∧ pm_ln h' (pm_sz h + 142 + j) = 3 ∧ pm_I h' (pm_sz h + 142 + j) 0 = 0 ∧ pm_I h' (pm_sz h + 142 + j) 1 = 1 ∧ pm_I h' (pm_sz h + 142 + j) 2 = Int32.ofNat (111 + j)) := by
  have hk := hz.1
  obtain ⟨w, ew⟩ : ∃ w, w = pm_setR (pm_new (pm_setR (pm_new (pm_setR (pm_new (pm_setR (pm_new (pm_setR (pm_new (pm_setR (pm_new h 32 0) a 4 (some (pm_sz h))) 34 1000) a 5 (some (pm_sz h + 1))) 34 1400) a 9 (some (pm_sz h + 2))) 34 1016) a 11 (some (pm_sz h + 3))) 34 2000) a 13 (some (pm_sz h + 4))) 34 16) a 15 (some (pm_sz h + 5)) := ⟨_, rfl⟩
  have F : pm_sz w = pm_sz h + 6 ∧ pe_K h w a ∧ (∀ y, pm_I w a y = 0) ∧ (∀ y, pm_L w a y = 0) ∧ (pm_R w a 4 = some (pm_sz h) ∧ pm_R w a 5 = some (pm_sz h + 1) ∧ pm_R w a 9 = some (pm_sz h + 2) ∧ pm_R w a 11 = some (pm_sz h + 3) ∧ pm_R w a 13 = some (pm_sz h + 4) ∧ pm_R w a 15 = some (pm_sz h + 5)) ∧ pe_Z w (pm_sz h) 32 0 ∧ pe_Z w (pm_sz h + 1) 34 1000 ∧ pe_Z w (pm_sz h + 2) 34 1400 ∧ pe_Z w (pm_sz h + 3) 34 1016 ∧ pe_Z w (pm_sz h + 4) 34 2000 ∧ pe_Z w (pm_sz h + 5) 34 16 := by
    rw [ew]
    refine ⟨?_, ⟨?_, ?_, ?_, fun x hx hxa => ⟨?_, ?_, fun y => ?_, fun y => ?_, fun y => ?_⟩⟩, fun y => ?_, fun y => ?_, ⟨?_, ?_, ?_, ?_, ?_, ?_⟩, ⟨?_, ?_, fun y => ?_, fun y => ?_, fun y => ?_⟩, ⟨?_, ?_, fun y => ?_, fun y => ?_, fun y => ?_⟩, ⟨?_, ?_, fun y => ?_, fun y => ?_, fun y => ?_⟩, ⟨?_, ?_, fun y => ?_, fun y => ?_, fun y => ?_⟩, ⟨?_, ?_, fun y => ?_, fun y => ?_, fun y => ?_⟩, ⟨?_, ?_, fun y => ?_, fun y => ?_, fun y => ?_⟩⟩
    all_goals first
      | (simp only [ev_szI, ev_szL, ev_szR, ev_szN, ev_kdI, ev_kdL, ev_kdR, ev_kdN, ev_lnI, ev_lnL, ev_lnR, ev_lnN, ev_II, ev_IL, ev_IR, ev_IN, ev_LI, ev_LL, ev_LR, ev_LN, ev_RI, ev_RL, ev_RR, ev_RN, Nat.add_assoc, Nat.reduceAdd, Nat.add_left_cancel_iff, Nat.left_eq_add, Nat.add_eq_left, Nat.reduceEqDiff, reduceIte, if_true, if_false, Option.bind_some, ev_let, pe_na ha, pe_na0 ha, pe_nb ha, pe_nb0 ha, hk, hz.2.2.1, hz.2.2.2.1]; done)
      | (simp only [ev_szI, ev_szL, ev_szR, ev_szN, ev_kdI, ev_kdL, ev_kdR, ev_kdN, ev_lnI, ev_lnL, ev_lnR, ev_lnN, ev_II, ev_IL, ev_IR, ev_IN, ev_LI, ev_LL, ev_LR, ev_LN, ev_RI, ev_RL, ev_RR, ev_RN, Nat.add_assoc, Nat.reduceAdd, Nat.add_left_cancel_iff, Nat.left_eq_add, Nat.add_eq_left, Nat.reduceEqDiff, reduceIte, if_true, if_false, Option.bind_some, ev_let, pe_na ha, pe_na0 ha, pe_nb ha, pe_nb0 ha, pe_na hx, pe_na0 hx, eq_false hxa]; done)
      | (simp only [ev_szI, ev_szL, ev_szR, ev_szN, ev_kdI, ev_kdL, ev_kdR, ev_kdN, ev_lnI, ev_lnL, ev_lnR, ev_lnN, ev_II, ev_IL, ev_IR, ev_IN, ev_LI, ev_LL, ev_LR, ev_LN, ev_RI, ev_RL, ev_RR, ev_RN, Nat.add_assoc, Nat.reduceAdd, Nat.add_left_cancel_iff, Nat.left_eq_add, Nat.add_eq_left, Nat.reduceEqDiff, reduceIte, if_true, if_false, Option.bind_some, ev_let]; omega)
  have E1 : fX1_init h a r n = pm_lim sX1_init (.inr (.inr (.inr (.inr (.inr (.inr (.inr (.inl ((a, r, n, pm_sz w, a, pm_ma w 4 2 128 128)))))))))) := by
    rw [ew]
    unfold fX1_init
    rw [ev_lim]; simp only [sX1_init, tX1_init_0, ev_szI, ev_szL, ev_szR, ev_szN, ev_kdI, ev_kdL, ev_kdR, ev_kdN, ev_lnI, ev_lnL, ev_lnR, ev_lnN, ev_II, ev_IL, ev_IR, ev_IN, ev_LI, ev_LL, ev_LR, ev_LN, ev_RI, ev_RL, ev_RR, ev_RN, Nat.add_assoc, Nat.reduceAdd, Nat.add_left_cancel_iff, Nat.left_eq_add, Nat.add_eq_left, Nat.reduceEqDiff, reduceIte, if_true, if_false, Option.bind_some, ev_let]
    rw [ev_lim]; simp only [sX1_init, tX1_init_8, ev_szI, ev_szL, ev_szR, ev_szN, ev_kdI, ev_kdL, ev_kdR, ev_kdN, ev_lnI, ev_lnL, ev_lnR, ev_lnN, ev_II, ev_IL, ev_IR, ev_IN, ev_LI, ev_LL, ev_LR, ev_LN, ev_RI, ev_RL, ev_RR, ev_RN, Nat.add_assoc, Nat.reduceAdd, Nat.add_left_cancel_iff, Nat.left_eq_add, Nat.add_eq_left, Nat.reduceEqDiff, reduceIte, if_true, if_false, Option.bind_some, ev_let, pe_na ha, pe_na0 ha, hk]
    rw [ev_lim]; simp only [sX1_init, tX1_init_17, ev_szI, ev_szL, ev_szR, ev_szN, ev_kdI, ev_kdL, ev_kdR, ev_kdN, ev_lnI, ev_lnL, ev_lnR, ev_lnN, ev_II, ev_IL, ev_IR, ev_IN, ev_LI, ev_LL, ev_LR, ev_LN, ev_RI, ev_RL, ev_RR, ev_RN, Nat.add_assoc, Nat.reduceAdd, Nat.add_left_cancel_iff, Nat.left_eq_add, Nat.add_eq_left, Nat.reduceEqDiff, reduceIte, if_true, if_false, Option.bind_some, ev_let, pe_na ha, pe_na0 ha, hk]
    rw [ev_lim]; simp only [sX1_init, tX1_init_26, ev_szI, ev_szL, ev_szR, ev_szN, ev_kdI, ev_kdL, ev_kdR, ev_kdN, ev_lnI, ev_lnL, ev_lnR, ev_lnN, ev_II, ev_IL, ev_IR, ev_IN, ev_LI, ev_LL, ev_LR, ev_LN, ev_RI, ev_RL, ev_RR, ev_RN, Nat.add_assoc, Nat.reduceAdd, Nat.add_left_cancel_iff, Nat.left_eq_add, Nat.add_eq_left, Nat.reduceEqDiff, reduceIte, if_true, if_false, Option.bind_some, ev_let, pe_na ha, pe_na0 ha, hk]
    rw [ev_lim]; simp only [sX1_init, tX1_init_35, ev_szI, ev_szL, ev_szR, ev_szN, ev_kdI, ev_kdL, ev_kdR, ev_kdN, ev_lnI, ev_lnL, ev_lnR, ev_lnN, ev_II, ev_IL, ev_IR, ev_IN, ev_LI, ev_LL, ev_LR, ev_LN, ev_RI, ev_RL, ev_RR, ev_RN, Nat.add_assoc, Nat.reduceAdd, Nat.add_left_cancel_iff, Nat.left_eq_add, Nat.add_eq_left, Nat.reduceEqDiff, reduceIte, if_true, if_false, Option.bind_some, ev_let, pe_na ha, pe_na0 ha, hk]
    rw [ev_lim]; simp only [sX1_init, tX1_init_44, ev_szI, ev_szL, ev_szR, ev_szN, ev_kdI, ev_kdL, ev_kdR, ev_kdN, ev_lnI, ev_lnL, ev_lnR, ev_lnN, ev_II, ev_IL, ev_IR, ev_IN, ev_LI, ev_LL, ev_LR, ev_LN, ev_RI, ev_RL, ev_RR, ev_RN, Nat.add_assoc, Nat.reduceAdd, Nat.add_left_cancel_iff, Nat.left_eq_add, Nat.add_eq_left, Nat.reduceEqDiff, reduceIte, if_true, if_false, Option.bind_some, ev_let, pe_na ha, pe_na0 ha, hk]
    rw [ev_lim]; simp only [sX1_init, tX1_init_52, ev_szI, ev_szL, ev_szR, ev_szN, ev_kdI, ev_kdL, ev_kdR, ev_kdN, ev_lnI, ev_lnL, ev_lnR, ev_lnN, ev_II, ev_IL, ev_IR, ev_IN, ev_LI, ev_LL, ev_LR, ev_LN, ev_RI, ev_RL, ev_RR, ev_RN, Nat.add_assoc, Nat.reduceAdd, Nat.add_left_cancel_iff, Nat.left_eq_add, Nat.add_eq_left, Nat.reduceEqDiff, reduceIte, if_true, if_false, Option.bind_some, ev_let, pe_na ha, pe_na0 ha, hk]
  obtain ⟨s0, K0, i0, l0, ⟨r4, r5, r9, r11, r13, r15⟩, z0, z1, z2, z3, z4, z5⟩ := F
  have haw : a < pm_sz w := by omega
  obtain ⟨n1, n2, n3, n4, n5, n6, n7, n8, n9⟩ := pe_maset w 4 2 128 a 16 haw
  have km : pm_kd (pm_ma w 4 2 128 128) a = 1 := ((pe_ma w 4 2 128).1 a haw).1.trans (K0.2.1.trans hk)
  obtain ⟨v, ev⟩ : ∃ v, v = pm_setR (pm_ma w 4 2 128 128) a 16 (some (pm_sz w)) := ⟨_, rfl⟩
  rw [← ev] at n1 n2 n3 n4 n5 n6 n7 n8 n9
  have E2 := pe_K_t ha K0 n2 (Or.inl rfl)
  have kv : pm_kd v a = 1 := E2.2.1.trans hk
  have hav : a < pm_sz v := by omega
  have hsv : pm_sz v = pm_sz h + 135 := by omega
  obtain ⟨g, eg⟩ : ∃ g, g = pm_new (pm_new (pm_setR (pm_setR v a 3 (some r)) a 2 (some n)) 0 0) 34 2 := ⟨_, rfl⟩
  have E3 : pm_lim sX1_init (.inr (.inr (.inr (.inr (.inr (.inr (.inr (.inl ((a, r, n, pm_sz w, a, pm_ma w 4 2 128 128)))))))))) = pm_lim sX1_init (.inr (.inr (.inr (.inr (.inr (.inr (.inr (.inr (.inr (.inl ((a, pm_sz v + 1, pm_sz v, pm_sz v, a, g)))))))))))) := by
    rw [eg]
    rw [ev_lim]; simp only [sX1_init, tX1_init_64, km, if_true, ← ev, kv, ev_szI, ev_szL, ev_szR, ev_szN, ev_kdI, ev_kdL, ev_kdR, ev_kdN, ev_lnI, ev_lnL, ev_lnR, ev_lnN, ev_II, ev_IL, ev_IR, ev_IN, ev_LI, ev_LL, ev_LR, ev_LN, ev_RI, ev_RL, ev_RR, ev_RN, Nat.add_assoc, Nat.reduceAdd, Nat.add_left_cancel_iff, Nat.left_eq_add, Nat.add_eq_left, Nat.reduceEqDiff, reduceIte, if_true, if_false, Option.bind_some, ev_let]
    rw [ev_lim]; simp only [sX1_init, tX1_init_81, ev_szI, ev_szL, ev_szR, ev_szN, ev_kdI, ev_kdL, ev_kdR, ev_kdN, ev_lnI, ev_lnL, ev_lnR, ev_lnN, ev_II, ev_IL, ev_IR, ev_IN, ev_LI, ev_LL, ev_LR, ev_LN, ev_RI, ev_RL, ev_RR, ev_RN, Nat.add_assoc, Nat.reduceAdd, Nat.add_left_cancel_iff, Nat.left_eq_add, Nat.add_eq_left, Nat.reduceEqDiff, reduceIte, if_true, if_false, Option.bind_some, ev_let]
  have G : pm_sz g = pm_sz v + 2 ∧ pe_K v g a ∧ (∀ y, pm_I g a y = 0) ∧ (∀ y, pm_L g a y = 0) ∧ (∀ y, pm_R g a y = if y = 2 then some n else if y = 3 then some r else pm_R v a y) ∧ pe_Z g (pm_sz v) 0 0 ∧ pe_Z g (pm_sz v + 1) 34 2 := by
    rw [eg]
    refine ⟨?_, ⟨?_, ?_, ?_, fun x hx hxa => ⟨?_, ?_, fun y => ?_, fun y => ?_, fun y => ?_⟩⟩, fun y => ?_, fun y => ?_, fun y => ?_, ⟨?_, ?_, fun y => ?_, fun y => ?_, fun y => ?_⟩, ⟨?_, ?_, fun y => ?_, fun y => ?_, fun y => ?_⟩⟩
    all_goals first
      | (simp only [ev_szI, ev_szL, ev_szR, ev_szN, ev_kdI, ev_kdL, ev_kdR, ev_kdN, ev_lnI, ev_lnL, ev_lnR, ev_lnN, ev_II, ev_IL, ev_IR, ev_IN, ev_LI, ev_LL, ev_LR, ev_LN, ev_RI, ev_RL, ev_RR, ev_RN, Nat.add_assoc, Nat.reduceAdd, Nat.add_left_cancel_iff, Nat.left_eq_add, Nat.add_eq_left, Nat.reduceEqDiff, reduceIte, if_true, if_false, Option.bind_some, ev_let, pe_na hav, pe_na0 hav, pe_nb hav, pe_nb0 hav, kv, n3, i0, n4, l0]; done)
      | (simp only [ev_szI, ev_szL, ev_szR, ev_szN, ev_kdI, ev_kdL, ev_kdR, ev_kdN, ev_lnI, ev_lnL, ev_lnR, ev_lnN, ev_II, ev_IL, ev_IR, ev_IN, ev_LI, ev_LL, ev_LR, ev_LN, ev_RI, ev_RL, ev_RR, ev_RN, Nat.add_assoc, Nat.reduceAdd, Nat.add_left_cancel_iff, Nat.left_eq_add, Nat.add_eq_left, Nat.reduceEqDiff, reduceIte, if_true, if_false, Option.bind_some, ev_let, pe_na hav, pe_na0 hav, pe_nb hav, pe_nb0 hav, pe_na hx, pe_na0 hx, eq_false hxa]; done)
      | (simp only [ev_szI, ev_szL, ev_szR, ev_szN, ev_kdI, ev_kdL, ev_kdR, ev_kdN, ev_lnI, ev_lnL, ev_lnR, ev_lnN, ev_II, ev_IL, ev_IR, ev_IN, ev_LI, ev_LL, ev_LR, ev_LN, ev_RI, ev_RL, ev_RR, ev_RN, Nat.add_assoc, Nat.reduceAdd, Nat.add_left_cancel_iff, Nat.left_eq_add, Nat.add_eq_left, Nat.reduceEqDiff, reduceIte, if_true, if_false, Option.bind_some, ev_let]; omega)
  obtain ⟨g1, g2, g3, g4, g5, g6, g7⟩ := G
  have hn0 : ¬ (5 * (if (0 : Int32) < 0 then 0 else (0 : Int32))) < 0 ∧ (5 * (if (0 : Int32) < 0 then 0 else (0 : Int32))).toNatClampNeg * 4 ≤ 536870912 := by decide
  have hl0 : (5 * (if (0 : Int32) < 0 then 0 else (0 : Int32))).toNatClampNeg = 0 := by decide
  obtain ⟨b, eb, b1, b2, b3, b4, ⟨b50, b51, b55, b57, b58⟩, b6, b7, b8, b9⟩ := cX0 (h := g) (a := pm_sz v) (p := pm_sz v + 1) (n := 0) g6 (by omega) hn0
  rw [hl0] at b9
  have Eb := b2.2.2.2
  have ba := Eb a (by omega) (by omega)
  have kb : pm_kd b a = 1 := ba.1.trans (g2.2.1.trans kv)
  have rb : pm_R b a 16 = some (pm_sz w) := by rw [ba.2.2.2.2 16, g5 16, n5 16]; rfl
  have vw : pe_E v b (pm_sz w) := pe_E_t (g2.2.2.2 _ (by omega) (by omega)) (Eb _ (by omega) (by omega))
  have hab : a < pm_sz b := by omega
  have hwb : pm_sz w < pm_sz b := by omega
  have naw : a ≠ pm_sz w := by omega
  have c64 : (64 : Int32).toNatClampNeg = 64 := by decide
  have p64 : pm_in 64 128 = True := eq_true (pe_in (i := 64) (by decide) (by decide))
  obtain ⟨l, el⟩ : ∃ l, l = pm_setR (pm_new (pm_setR b a 17 (some (pm_sz v))) 34 2) (pm_sz w) 64 (some (pm_sz b)) := ⟨_, rfl⟩
  have E4 : pm_lim sX1_init (.inr (.inr (.inr (.inr (.inr (.inr (.inr (.inr (.inr (.inl ((a, pm_sz v + 1, pm_sz v, pm_sz v, a, g)))))))))))) = pm_lim sX1_init (.inr (.inr (.inr (.inr (.inr (.inr (.inr (.inr (.inr (.inr (.inr (.inr (.inl ((a, 111, l))))))))))))))) := by
    rw [el]
    rw [ev_lim]; simp only [sX1_init, tX1_init_85, eb, Option.bind_some]
    rw [ev_lim]; simp only [sX1_init, tX1_init_89, kb, ev_szI, ev_szL, ev_szR, ev_szN, ev_kdI, ev_kdL, ev_kdR, ev_kdN, ev_lnI, ev_lnL, ev_lnR, ev_lnN, ev_II, ev_IL, ev_IR, ev_IN, ev_LI, ev_LL, ev_LR, ev_LN, ev_RI, ev_RL, ev_RR, ev_RN, Nat.add_assoc, Nat.reduceAdd, Nat.add_left_cancel_iff, Nat.left_eq_add, Nat.add_eq_left, Nat.reduceEqDiff, reduceIte, if_true, if_false, Option.bind_some, ev_let, rb]
    rw [ev_lim]; simp only [sX1_init, tX1_init_101, ev_szI, ev_szL, ev_szR, ev_szN, ev_kdI, ev_kdL, ev_kdR, ev_kdN, ev_lnI, ev_lnL, ev_lnR, ev_lnN, ev_II, ev_IL, ev_IR, ev_IN, ev_LI, ev_LL, ev_LR, ev_LN, ev_RI, ev_RL, ev_RR, ev_RN, Nat.add_assoc, Nat.reduceAdd, Nat.add_left_cancel_iff, Nat.left_eq_add, Nat.add_eq_left, Nat.reduceEqDiff, reduceIte, if_true, if_false, Option.bind_some, ev_let, pe_na hwb, pe_na0 hwb, vw.1.trans n6, vw.2.1.trans n7, c64, p64]
  have Fl : pm_sz l = pm_sz b + 1 ∧ (∀ x, x < pm_sz b → x ≠ a → x ≠ pm_sz w → pe_E b l x) ∧ (∀ y, pm_I l a y = pm_I b a y) ∧ (∀ y, pm_L l a y = pm_L b a y) ∧ (∀ y, pm_R l a y = if y = 17 then some (pm_sz v) else pm_R b a y) ∧ pm_kd l a = 1 ∧ pm_ln l a = pm_ln b a ∧ pm_kd l (pm_sz w) = 36 ∧ pm_ln l (pm_sz w) = 128 ∧ (∀ y, pm_R l (pm_sz w) y = if y = 64 then some (pm_sz b) else pm_R b (pm_sz w) y) ∧ pe_Z l (pm_sz b) 34 2 := by
    rw [el]
    refine ⟨?_, fun x hx hxa hxw => ⟨?_, ?_, fun y => ?_, fun y => ?_, fun y => ?_⟩, fun y => ?_, fun y => ?_, fun y => ?_, ?_, ?_, ?_, ?_, fun y => ?_, ⟨?_, ?_, fun y => ?_, fun y => ?_, fun y => ?_⟩⟩
    all_goals first
      | (simp only [ev_szI, ev_szL, ev_szR, ev_szN, ev_kdI, ev_kdL, ev_kdR, ev_kdN, ev_lnI, ev_lnL, ev_lnR, ev_lnN, ev_II, ev_IL, ev_IR, ev_IN, ev_LI, ev_LL, ev_LR, ev_LN, ev_RI, ev_RL, ev_RR, ev_RN, Nat.add_assoc, Nat.reduceAdd, Nat.add_left_cancel_iff, Nat.left_eq_add, Nat.add_eq_left, Nat.reduceEqDiff, reduceIte, if_true, if_false, Option.bind_some, ev_let, pe_na hab, pe_na0 hab, pe_nb hab, pe_nb0 hab, pe_na hwb, pe_na0 hwb, pe_nb hwb, pe_nb0 hwb, eq_false naw, eq_false (Ne.symm naw), kb, vw.1.trans n6, vw.2.1.trans n7]; done)
      | (simp only [ev_szI, ev_szL, ev_szR, ev_szN, ev_kdI, ev_kdL, ev_kdR, ev_kdN, ev_lnI, ev_lnL, ev_lnR, ev_lnN, ev_II, ev_IL, ev_IR, ev_IN, ev_LI, ev_LL, ev_LR, ev_LN, ev_RI, ev_RL, ev_RR, ev_RN, Nat.add_assoc, Nat.reduceAdd, Nat.add_left_cancel_iff, Nat.left_eq_add, Nat.add_eq_left, Nat.reduceEqDiff, reduceIte, if_true, if_false, Option.bind_some, ev_let, pe_na hx, pe_na0 hx, eq_false hxa, eq_false hxw]; done)
  obtain ⟨t1, t2, t3, t4, t5, t6, t6', t7, t8, t9, t10⟩ := Fl
  obtain ⟨h', eh, o1, o2, ⟨o3, o4, o5⟩, o6⟩ := cX1_loop (l0 := l) (a := a) (b := pm_sz w) (by omega) naw (by omega) t6 (by rw [t5 16, rb]; rfl) t7 t8
  have oa := o2 a (by omega) naw
  have hsb : pm_sz b = pm_sz h + 141 := by omega
  have hsl : pm_sz l = pm_sz h + 142 := by omega
  have T : ∀ x, x < pm_sz v → x ≠ a → x ≠ pm_sz w → pe_E v h' x := fun x hx hxa hxw => pe_E_t (pe_E_t (pe_E_t (g2.2.2.2 x hx hxa) (Eb x (by omega) (by omega))) (t2 x (by omega) hxa hxw)) (o2 x (by omega) hxw)
  have TB : ∀ x, pm_sz v ≤ x → x < pm_sz b → pe_E b h' x := fun x hx hxb => pe_E_t (t2 x hxb (by omega) (by omega)) (o2 x (by omega) (by omega))
  have RA : ∀ y, pm_R h' a y = if y = 17 then some (pm_sz v) else if y = 2 then some n else if y = 3 then some r else if y = 16 then some (pm_sz w) else pm_R w a y := fun y => by rw [oa.2.2.2.2 y, t5 y, ba.2.2.2.2 y, g5 y, n5 y]
  have e135 := TB (pm_sz v) (Nat.le_refl _) (by omega)
  rw [hsv] at e135 b3 b4 b50 b51 b55 b57 b58
  refine ⟨h', by rw [E1, E3, E4, eh], by omega, ⟨by omega, ?_, ?_, fun x hx hxa => pe_E_t (E2.2.2.2 x hx hxa) (T x (by omega) hxa (by omega))⟩, fun y => ?_, fun y => ?_, ⟨by rw [RA]; rfl, by rw [RA]; rfl, by rw [RA]; exact r4, by rw [RA]; exact r5, by rw [RA]; exact r9, by rw [RA]; exact r11, by rw [RA]; exact r13, by rw [RA]; exact r15, by rw [RA]; simp only [Nat.reduceEqDiff, if_false, if_true]; rw [s0], by rw [RA]; simp only [if_true]; rw [hsv]⟩, ⟨pe_E_Z (T _ (by omega) (by omega) (by omega)) (pe_E_Z (n2.2.2.2 _ (by omega) (by omega)) z0), pe_E_Z (T _ (by omega) (by omega) (by omega)) (pe_E_Z (n2.2.2.2 _ (by omega) (by omega)) z1), pe_E_Z (T _ (by omega) (by omega) (by omega)) (pe_E_Z (n2.2.2.2 _ (by omega) (by omega)) z2), pe_E_Z (T _ (by omega) (by omega) (by omega)) (pe_E_Z (n2.2.2.2 _ (by omega) (by omega)) z3), pe_E_Z (T _ (by omega) (by omega) (by omega)) (pe_E_Z (n2.2.2.2 _ (by omega) (by omega)) z4), pe_E_Z (T _ (by omega) (by omega) (by omega)) (pe_E_Z (n2.2.2.2 _ (by omega) (by omega)) z5)⟩, ⟨by rw [← s0]; exact o3, by rw [← s0]; exact o4, fun y hy => ?_⟩, fun i hi => ?_, ⟨e135.1.trans ?_, fun y => (e135.2.2.1 y).trans (b3 y), (e135.2.2.2.2 0).trans b50, (e135.2.2.2.2 1).trans ?_, (e135.2.2.2.2 5).trans ?_, (e135.2.2.2.2 7).trans ?_, (e135.2.2.2.2 8).trans ?_⟩, ⟨?_, ?_, ?_, ?_, ?_, ?_⟩, fun j hj => ?_⟩
  · rw [oa.1, t6, hk]
  · rw [oa.2.1, t6', ba.2.1, g2.2.2.1, E2.2.2.1]
  · rw [oa.2.2.1 y, t3 y, ba.2.2.1 y, g3 y]
  · rw [oa.2.2.2.1 y, t4 y, ba.2.2.2.1 y, g4 y]
  · rw [← s0, o5 y, t9 y, vw.2.2.2.2 y, n8 y hy, hsl, hsb, s0]
  · have e7 : pm_sz h + 7 + i = pm_sz w + 1 + i := by omega
    rw [e7]
    exact pe_E_Z (T _ (by omega) (by omega) (by omega)) (n9 i hi)
  · rw [← hsv]; exact b2.2.1.trans g6.1
  · rw [b51, g1]; congr 1; omega
  · rw [b55, g1]; congr 1; omega
  · rw [b57, g1]; congr 1; omega
  · rw [b58, g1]; congr 1; omega
  · have e7 : pm_sz h + 136 = pm_sz v + 1 := by omega
    rw [e7]
    exact pe_E_Z (TB _ (by omega) (by omega)) (pe_E_Z (Eb _ (by omega) (by omega)) g7)
  · have e7 : pm_sz h + 137 = pm_sz g := by omega
    rw [e7]; exact pe_E_Z (TB _ (by omega) (by omega)) b6
  · have e7 : pm_sz h + 138 = pm_sz g + 1 := by omega
    rw [e7]; exact pe_E_Z (TB _ (by omega) (by omega)) b7
  · have e7 : pm_sz h + 139 = pm_sz g + 2 := by omega
    rw [e7]; exact pe_E_Z (TB _ (by omega) (by omega)) b8
  · have e7 : pm_sz h + 140 = pm_sz g + 3 := by omega
    rw [e7]; exact pe_E_Z (TB _ (by omega) (by omega)) b9
  · rw [← hsb]; exact pe_E_Z (o2 _ (by omega) (by omega)) t10
  · rw [← hsl]; exact o6 j hj
