/-! CONSTRUCTORS, fourth: Instance, Checker -/
theorem pe_dv {n k : Nat} (hn : n < 2147483648) (hk : 0 < k) (hk2 : k < 2147483648) : Int32.ofNat n / Int32.ofNat k = Int32.ofNat (n / k) := by
  apply Int32.toInt_inj.mp
  have e1 : (Int32.ofNat n).toInt = n := Int32.toInt_ofNat_of_lt (by omega)
  have e2 : (Int32.ofNat k).toInt = k := Int32.toInt_ofNat_of_lt (by omega)
  have hq : n / k ≤ n := Nat.div_le_self n k
  have e3 : (Int32.ofNat (n / k)).toInt = ((n / k : Nat) : Int) := Int32.toInt_ofNat_of_lt (by omega)
  have hne : Int32.ofNat k ≠ -1 := fun e => by
    rw [e] at e2
    have : (-1 : Int32).toInt = -1 := by decide
    rw [this] at e2
    omega
  rw [Int32.toInt_div_of_ne_right _ _ hne, e1, e2, e3]
  rw [Int.tdiv_eq_ediv_of_nonneg (by omega)]
  exact (Int.natCast_ediv n k).symm
theorem pe_ok {m : Nat} (hm : m ≤ 134217728) : ¬ Int32.ofNat m < 0 ∧ (Int32.ofNat m).toNatClampNeg * 4 ≤ 536870912 := by
  have e2 : (Int32.ofNat m).toNatClampNeg = m := Int32.toNatClampNeg_ofNat_of_lt (by omega)
  refine ⟨fun q => ?_, by rw [e2]; omega⟩
  have := Int32.lt_iff_toInt_lt.mp q
  rw [Int32.toInt_ofNat_of_lt (by omega)] at this
  have h0 : (0 : Int32).toInt = 0 := by decide
  rw [h0] at this
  omega
theorem pe_cm {m : Nat} (hm : m < 2147483648) : (Int32.ofNat m).toNatClampNeg = m := Int32.toNatClampNeg_ofNat_of_lt (by omega)
theorem pe_ne {x y q r : Nat} {h : pm_H} (e1 : pm_kd h x = q) (e2 : pm_kd h y = r) (hq : q ≠ r) : (x = y) = False := eq_false (fun e => hq (by rw [← e1, ← e2, e]))
/-- an Instance of the module p -/
theorem cX4 {h : pm_H} {a p f t m g e d lf lt lm lg le ld : Nat} (hz : pe_Z h a 4 0) (ha : a < pm_sz h) (hp : pm_kd h p = 7) (hps : p < pm_sz h) (Rf : pm_R h p 4 = some f) (Rt : pm_R h p 5 = some t) (Rm : pm_R h p 6 = some m) (Rg : pm_R h p 7 = some g) (Re : pm_R h p 9 = some e) (Rd : pm_R h p 10 = some d) (hf : f < pm_sz h ∧ pm_kd h f = 35 ∧ pm_ln h f = lf ∧ lf ≤ 100000000) (ht : t < pm_sz h ∧ pm_kd h t = 35 ∧ pm_ln h t = lt ∧ lt ≤ 100000000) (hm : m < pm_sz h ∧ pm_kd h m = 35 ∧ pm_ln h m = lm ∧ lm ≤ 100000000) (hg : g < pm_sz h ∧ pm_kd h g = 35 ∧ pm_ln h g = lg ∧ lg ≤ 100000000) (he : e < pm_sz h ∧ pm_kd h e = 34 ∧ pm_ln h e = le ∧ le ≤ 100000000) (hd : d < pm_sz h ∧ pm_kd h d = 34 ∧ pm_ln h d = ld ∧ ld ≤ 100000000) : ∃ h', fX4_init h a p = some h' ∧ pm_sz h' = pm_sz h + 7 + le / 7 ∧ pe_K h h' a ∧ (∀ y, pm_I h' a y = 0) ∧ (∀ y, pm_L h' a y = 0) ∧ (pm_R h' a 0 = some p ∧ pm_R h' a 1 = some (pm_sz h) ∧ pm_R h' a 2 = some (pm_sz h + 1) ∧ pm_R h' a 3 = some (pm_sz h + 2) ∧ pm_R h' a 4 = some (pm_sz h + 3) ∧ pm_R h' a 5 = some (pm_sz h + 4) ∧ pm_R h' a 6 = some (pm_sz h + 5 + le / 7) ∧ pm_R h' a 7 = some (pm_sz h + 6 + le / 7)) ∧ pe_Z h' (pm_sz h) 34 (lf / 6) ∧ pe_Z h' (pm_sz h + 1) 34 (lt / 6) ∧ pe_Z h' (pm_sz h + 2) 34 (lm / 6) ∧ pe_Z h' (pm_sz h + 3) 34 (lg / 6) ∧ (pm_kd h' (pm_sz h + 4) = 36 ∧ pm_ln h' (pm_sz h + 4) = le / 7 ∧ ∀ y, y < le / 7 → pm_R h' (pm_sz h + 4) y = some (pm_sz h + 5 + y)) ∧ (∀ i, i < le / 7 → pe_Z h' (pm_sz h + 5 + i) 34 0) ∧ pe_Z h' (pm_sz h + 5 + le / 7) 34 (le / 7) ∧ pe_Z h' (pm_sz h + 6 + le / 7) 34 (ld / 7) := by
  have hk := hz.1
  obtain ⟨f1, f2, f3, f4⟩ := hf
  obtain ⟨t1, t2, t3, t4⟩ := ht
  obtain ⟨m1, m2, m3, m4⟩ := hm
  obtain ⟨g1, g2, g3, g4⟩ := hg
  obtain ⟨e1, e2, e3, e4⟩ := he
  obtain ⟨d1, d2, d3, d4⟩ := hd
  have npa := pe_ne hp hk (by decide)
  have nfa := pe_ne f2 hk (by decide)
  have nta := pe_ne t2 hk (by decide)
  have nma := pe_ne m2 hk (by decide)
  have nga := pe_ne g2 hk (by decide)
  have nea := pe_ne e2 hk (by decide)
  have nda := pe_ne d2 hk (by decide)
  have q10 : ((1 : Int32) = 0) = False := eq_false (by decide)
  have q20 : ((2 : Int32) = 0) = False := eq_false (by decide)
  have q21 : ((2 : Int32) = 1) = False := eq_false (by decide)
  have q30 : ((3 : Int32) = 0) = False := eq_false (by decide)
  have q31 : ((3 : Int32) = 1) = False := eq_false (by decide)
  have q32 : ((3 : Int32) = 2) = False := eq_false (by decide)
  have vf : Int32.ofNat lf / 6 = Int32.ofNat (lf / 6) := pe_dv (k := 6) (by omega) (by decide) (by decide)
  have vt : Int32.ofNat lt / 6 = Int32.ofNat (lt / 6) := pe_dv (k := 6) (by omega) (by decide) (by decide)
  have vm : Int32.ofNat lm / 6 = Int32.ofNat (lm / 6) := pe_dv (k := 6) (by omega) (by decide) (by decide)
  have vg : Int32.ofNat lg / 6 = Int32.ofNat (lg / 6) := pe_dv (k := 6) (by omega) (by decide) (by decide)
  have ve : Int32.ofNat le / 7 = Int32.ofNat (le / 7) := pe_dv (k := 7) (by omega) (by decide) (by decide)
  have vd : Int32.ofNat ld / 7 = Int32.ofNat (ld / 7) := pe_dv (k := 7) (by omega) (by decide) (by decide)
  have of := pe_ok (m := lf / 6) (by omega)
  have ot := pe_ok (m := lt / 6) (by omega)
  have om := pe_ok (m := lm / 6) (by omega)
  have og := pe_ok (m := lg / 6) (by omega)
  have oe := pe_ok (m := le / 7) (by omega)
  have od := pe_ok (m := ld / 7) (by omega)
  have bf : ((lf / 6) * 4 ≤ 536870912) = True := eq_true (by omega)
  have cf := pe_cm (m := lf / 6) (by omega)
  have bt : ((lt / 6) * 4 ≤ 536870912) = True := eq_true (by omega)
  have ct := pe_cm (m := lt / 6) (by omega)
  have bm : ((lm / 6) * 4 ≤ 536870912) = True := eq_true (by omega)
  have cm := pe_cm (m := lm / 6) (by omega)
  have bg : ((lg / 6) * 4 ≤ 536870912) = True := eq_true (by omega)
  have cg := pe_cm (m := lg / 6) (by omega)
  have be : ((le / 7) * 4 ≤ 536870912) = True := eq_true (by omega)
  have ce := pe_cm (m := le / 7) (by omega)
  have bd : ((ld / 7) * 4 ≤ 536870912) = True := eq_true (by omega)
  have cd := pe_cm (m := ld / 7) (by omega)
  obtain ⟨w, ew⟩ : ∃ w, w = pm_setR (pm_new (pm_setR (pm_new (pm_setR (pm_new (pm_setR (pm_new (pm_setR h a 0 (some p)) 34 (lf / 6)) a 1 (some (pm_sz h))) 34 (lt / 6)) a 2 (some (pm_sz h + 1))) 34 (lm / 6)) a 3 (some (pm_sz h + 2))) 34 (lg / 6)) a 4 (some (pm_sz h + 3)) := ⟨_, rfl⟩
  have F : pm_sz w = pm_sz h + 4 ∧ pe_K h w a ∧ (∀ y, pm_I w a y = 0) ∧ (∀ y, pm_L w a y = 0) ∧ (pm_R w a 0 = some p ∧ pm_R w a 1 = some (pm_sz h) ∧ pm_R w a 2 = some (pm_sz h + 1) ∧ pm_R w a 3 = some (pm_sz h + 2) ∧ pm_R w a 4 = some (pm_sz h + 3)) ∧ pe_Z w (pm_sz h) 34 (lf / 6) ∧ pe_Z w (pm_sz h + 1) 34 (lt / 6) ∧ pe_Z w (pm_sz h + 2) 34 (lm / 6) ∧ pe_Z w (pm_sz h + 3) 34 (lg / 6) := by
    rw [ew]
    refine ⟨?_, ⟨?_, ?_, ?_, fun x hx hxa => ⟨?_, ?_, fun y => ?_, fun y => ?_, fun y => ?_⟩⟩, fun y => ?_, fun y => ?_, ⟨?_, ?_, ?_, ?_, ?_⟩, ⟨?_, ?_, fun y => ?_, fun y => ?_, fun y => ?_⟩, ⟨?_, ?_, fun y => ?_, fun y => ?_, fun y => ?_⟩, ⟨?_, ?_, fun y => ?_, fun y => ?_, fun y => ?_⟩, ⟨?_, ?_, fun y => ?_, fun y => ?_, fun y => ?_⟩⟩
    all_goals first
      | (simp only [ev_szI, ev_szL, ev_szR, ev_szN, ev_kdI, ev_kdL, ev_kdR, ev_kdN, ev_lnI, ev_lnL, ev_lnR, ev_lnN, ev_II, ev_IL, ev_IR, ev_IN, ev_LI, ev_LL, ev_LR, ev_LN, ev_RI, ev_RL, ev_RR, ev_RN, Nat.add_assoc, Nat.reduceAdd, Nat.add_left_cancel_iff, Nat.left_eq_add, Nat.add_eq_left, Nat.reduceEqDiff, reduceIte, if_true, if_false, Option.bind_some, ev_let, pe_na ha, pe_na0 ha, pe_nb ha, pe_nb0 ha, hk, hz.2.2.1, hz.2.2.2.1]; done)
      | (simp only [ev_szI, ev_szL, ev_szR, ev_szN, ev_kdI, ev_kdL, ev_kdR, ev_kdN, ev_lnI, ev_lnL, ev_lnR, ev_lnN, ev_II, ev_IL, ev_IR, ev_IN, ev_LI, ev_LL, ev_LR, ev_LN, ev_RI, ev_RL, ev_RR, ev_RN, Nat.add_assoc, Nat.reduceAdd, Nat.add_left_cancel_iff, Nat.left_eq_add, Nat.add_eq_left, Nat.reduceEqDiff, reduceIte, if_true, if_false, Option.bind_some, ev_let, pe_na ha, pe_na0 ha, pe_nb ha, pe_nb0 ha, pe_na hx, pe_na0 hx, eq_false hxa]; done)
      | (simp only [ev_szI, ev_szL, ev_szR, ev_szN, ev_kdI, ev_kdL, ev_kdR, ev_kdN, ev_lnI, ev_lnL, ev_lnR, ev_lnN, ev_II, ev_IL, ev_IR, ev_IN, ev_LI, ev_LL, ev_LR, ev_LN, ev_RI, ev_RL, ev_RR, ev_RN, Nat.add_assoc, Nat.reduceAdd, Nat.add_left_cancel_iff, Nat.left_eq_add, Nat.add_eq_left, Nat.reduceEqDiff, reduceIte, if_true, if_false, Option.bind_some, ev_let]; omega)
  have E1 : fX4_init h a p = fX4_init_b67 (pm_ma w 4 2 (le / 7) (le / 7)) a p (pm_sz w) a := by
    rw [ew]
    simp only [fX4_init, fX4_init_b0, fX4_init_b17, fX4_init_b28, fX4_init_b39, fX4_init_b50, fX7_count, fX7_space, ev_szI, ev_szL, ev_szR, ev_szN, ev_kdI, ev_kdL, ev_kdR, ev_kdN, ev_lnI, ev_lnL, ev_lnR, ev_lnN, ev_II, ev_IL, ev_IR, ev_IN, ev_LI, ev_LL, ev_LR, ev_LN, ev_RI, ev_RL, ev_RR, ev_RN, Nat.add_assoc, Nat.reduceAdd, Nat.add_left_cancel_iff, Nat.left_eq_add, Nat.add_eq_left, Nat.reduceEqDiff, reduceIte, if_true, if_false, Option.bind_some, ev_let, pe_na ha, pe_na0 ha, pe_na hps, pe_na0 hps, pe_na f1, pe_na0 f1, pe_na t1, pe_na0 t1, pe_na m1, pe_na0 m1, pe_na g1, pe_na0 g1, pe_na e1, pe_na0 e1, pe_na d1, pe_na0 d1, hk, hp, npa, nfa, nta, nma, nga, nea, nda, Rf, Rt, Rm, Rg, Re, Rd, f2, f3, t2, t3, m2, m3, g2, g3, e2, e3, d2, d3, q10, q20, q21, q30, q31, q32, vf, vt, vm, vg, ve, vd, of, ot, om, og, oe, od, bf, bt, bm, bg, be, bd, cf, ct, cm, cg, ce, cd, not_false_eq_true, and_self]
  obtain ⟨s0, K0, i0, l0, ⟨r0, r1, r2, r3, r4⟩, z0, z1, z2, z3⟩ := F
  have hag : a < pm_sz w := by omega
  obtain ⟨n1, n2, n3, n4, n5, n6, n7, n8, n9⟩ := pe_maset w 4 2 (le / 7) a 5 hag
  have E2 := pe_K_t ha K0 n2 (Or.inl rfl)
  have km : pm_kd (pm_ma w 4 2 (le / 7) (le / 7)) a = 4 := ((pe_ma w 4 2 (le / 7)).1 a hag).1.trans (K0.2.1.trans hk)
  obtain ⟨v, ev⟩ : ∃ v, v = pm_setR (pm_ma w 4 2 (le / 7) (le / 7)) a 5 (some (pm_sz w)) := ⟨_, rfl⟩
  have E3 : fX4_init h a p = fX4_init_b78 (pm_new v 34 (le / 7)) a p (pm_sz v) a := by
    rw [E1]
    unfold fX4_init_b67
    rw [if_pos km, ← ev]
    have kv : pm_kd v a = 4 := by rw [ev]; exact km
    have rv : pm_R v a 5 = some (pm_sz w) := by rw [ev, n5 5, if_pos rfl]
    have kv2 : pm_kd v (pm_sz w) = 36 := by rw [ev]; exact n6
    have lv2 : pm_ln v (pm_sz w) = le / 7 := by rw [ev]; exact n7
    rw [if_pos kv, rv]
    simp only [Option.bind_some, kv2, lv2, if_true, ev_let, oe, be, ce, not_false_eq_true, and_self]
  rw [← ev] at n1 n2 n3 n4 n5 n6 n7 n8 n9 E2
  have kva : pm_kd v a = 4 := E2.2.1.trans hk
  have hav : a < pm_sz v := by omega
  have vp : pe_E h v p := E2.2.2.2 p hps (of_eq_false npa)
  have vd' : pe_E h v d := E2.2.2.2 d d1 (of_eq_false nda)
  have hpv : p < pm_sz v := by omega
  have hdv : d < pm_sz v := by omega
  have kp : pm_kd v p = 7 := vp.1.trans hp
  have rp : pm_R v p 10 = some d := (vp.2.2.2.2 10).trans Rd
  have kd : pm_kd v d = 34 := vd'.1.trans d2
  have ld' : pm_ln v d = ld := vd'.2.1.trans d3
  rw [E3]
  refine pe_ex (by
    simp only [fX4_init_b78, fX4_init_b92, ev_szI, ev_szL, ev_szR, ev_szN, ev_kdI, ev_kdL, ev_kdR, ev_kdN, ev_lnI, ev_lnL, ev_lnR, ev_lnN, ev_II, ev_IL, ev_IR, ev_IN, ev_LI, ev_LL, ev_LR, ev_LN, ev_RI, ev_RL, ev_RR, ev_RN, Nat.add_assoc, Nat.reduceAdd, Nat.add_left_cancel_iff, Nat.left_eq_add, Nat.add_eq_left, Nat.reduceEqDiff, reduceIte, if_true, if_false, Option.bind_some, ev_let, pe_na hav, pe_na0 hav, pe_na hpv, pe_na0 hpv, pe_na hdv, pe_na0 hdv, kva, kp, rp, kd, ld', npa, nda, vd, od, bd, cd, not_false_eq_true, and_self]
    rfl) ?_
  have G : ∀ x, x < pm_sz v → x ≠ a → pe_E v (pm_setR (pm_new (pm_setR (pm_new v 34 (le / 7)) a 6 (some (pm_sz v))) 34 (ld / 7)) a 7 (some (pm_sz v + 1))) x := fun x hx hxa => by
    refine ⟨?_, ?_, fun y => ?_, fun y => ?_, fun y => ?_⟩
    all_goals simp only [ev_szI, ev_szL, ev_szR, ev_szN, ev_kdI, ev_kdL, ev_kdR, ev_kdN, ev_lnI, ev_lnL, ev_lnR, ev_lnN, ev_II, ev_IL, ev_IR, ev_IN, ev_LI, ev_LL, ev_LR, ev_LN, ev_RI, ev_RL, ev_RR, ev_RN, Nat.add_assoc, Nat.reduceAdd, Nat.add_left_cancel_iff, Nat.left_eq_add, Nat.add_eq_left, Nat.reduceEqDiff, reduceIte, if_true, if_false, Option.bind_some, ev_let, pe_na hx, pe_na0 hx, eq_false hxa]
  have hsv : pm_sz v = pm_sz h + 5 + le / 7 := by rw [n1, s0]
  rw [s0] at n6 n7 n8 n9
  refine ⟨?_, pe_K_t ha E2 ⟨?_, ?_, ?_, fun x hx hxa => G x hx hxa⟩ (Or.inl rfl), fun y => ?_, fun y => ?_, ⟨?_, ?_, ?_, ?_, ?_, ?_, ?_, ?_⟩, pe_E_Z (G _ (by omega) (by omega)) (pe_E_Z (n2.2.2.2 _ (by omega) (by omega)) z0), pe_E_Z (G _ (by omega) (by omega)) (pe_E_Z (n2.2.2.2 _ (by omega) (by omega)) z1), pe_E_Z (G _ (by omega) (by omega)) (pe_E_Z (n2.2.2.2 _ (by omega) (by omega)) z2), pe_E_Z (G _ (by omega) (by omega)) (pe_E_Z (n2.2.2.2 _ (by omega) (by omega)) z3), ⟨(G (pm_sz h + 4) (by omega) (by omega)).1.trans n6, (G (pm_sz h + 4) (by omega) (by omega)).2.1.trans n7, fun y hy => ((G (pm_sz h + 4) (by omega) (by omega)).2.2.2.2 y).trans (n8 y hy)⟩, fun i hi => pe_E_Z (G _ (by omega) (by omega)) (n9 i hi), ?_, ?_⟩
  · simp only [ev_szI, ev_szL, ev_szR, ev_szN, ev_kdI, ev_kdL, ev_kdR, ev_kdN, ev_lnI, ev_lnL, ev_lnR, ev_lnN, ev_II, ev_IL, ev_IR, ev_IN, ev_LI, ev_LL, ev_LR, ev_LN, ev_RI, ev_RL, ev_RR, ev_RN, Nat.add_assoc, Nat.reduceAdd, Nat.add_left_cancel_iff, Nat.left_eq_add, Nat.add_eq_left, Nat.reduceEqDiff, reduceIte, if_true, if_false, Option.bind_some, ev_let]; omega
  · simp only [ev_szI, ev_szL, ev_szR, ev_szN, ev_kdI, ev_kdL, ev_kdR, ev_kdN, ev_lnI, ev_lnL, ev_lnR, ev_lnN, ev_II, ev_IL, ev_IR, ev_IN, ev_LI, ev_LL, ev_LR, ev_LN, ev_RI, ev_RL, ev_RR, ev_RN, Nat.add_assoc, Nat.reduceAdd, Nat.add_left_cancel_iff, Nat.left_eq_add, Nat.add_eq_left, Nat.reduceEqDiff, reduceIte, if_true, if_false, Option.bind_some, ev_let]; omega
  · simp only [ev_szI, ev_szL, ev_szR, ev_szN, ev_kdI, ev_kdL, ev_kdR, ev_kdN, ev_lnI, ev_lnL, ev_lnR, ev_lnN, ev_II, ev_IL, ev_IR, ev_IN, ev_LI, ev_LL, ev_LR, ev_LN, ev_RI, ev_RL, ev_RR, ev_RN, Nat.add_assoc, Nat.reduceAdd, Nat.add_left_cancel_iff, Nat.left_eq_add, Nat.add_eq_left, Nat.reduceEqDiff, reduceIte, if_true, if_false, Option.bind_some, ev_let, pe_na hav, pe_na0 hav]
  · simp only [ev_szI, ev_szL, ev_szR, ev_szN, ev_kdI, ev_kdL, ev_kdR, ev_kdN, ev_lnI, ev_lnL, ev_lnR, ev_lnN, ev_II, ev_IL, ev_IR, ev_IN, ev_LI, ev_LL, ev_LR, ev_LN, ev_RI, ev_RL, ev_RR, ev_RN, Nat.add_assoc, Nat.reduceAdd, Nat.add_left_cancel_iff, Nat.left_eq_add, Nat.add_eq_left, Nat.reduceEqDiff, reduceIte, if_true, if_false, Option.bind_some, ev_let, pe_na hav, pe_na0 hav]
  · simp only [ev_szI, ev_szL, ev_szR, ev_szN, ev_kdI, ev_kdL, ev_kdR, ev_kdN, ev_lnI, ev_lnL, ev_lnR, ev_lnN, ev_II, ev_IL, ev_IR, ev_IN, ev_LI, ev_LL, ev_LR, ev_LN, ev_RI, ev_RL, ev_RR, ev_RN, Nat.add_assoc, Nat.reduceAdd, Nat.add_left_cancel_iff, Nat.left_eq_add, Nat.add_eq_left, Nat.reduceEqDiff, reduceIte, if_true, if_false, Option.bind_some, ev_let, pe_na hav, pe_na0 hav, n3, i0]
  · simp only [ev_szI, ev_szL, ev_szR, ev_szN, ev_kdI, ev_kdL, ev_kdR, ev_kdN, ev_lnI, ev_lnL, ev_lnR, ev_lnN, ev_II, ev_IL, ev_IR, ev_IN, ev_LI, ev_LL, ev_LR, ev_LN, ev_RI, ev_RL, ev_RR, ev_RN, Nat.add_assoc, Nat.reduceAdd, Nat.add_left_cancel_iff, Nat.left_eq_add, Nat.add_eq_left, Nat.reduceEqDiff, reduceIte, if_true, if_false, Option.bind_some, ev_let, pe_na hav, pe_na0 hav, n4, l0]
  · simp only [ev_szI, ev_szL, ev_szR, ev_szN, ev_kdI, ev_kdL, ev_kdR, ev_kdN, ev_lnI, ev_lnL, ev_lnR, ev_lnN, ev_II, ev_IL, ev_IR, ev_IN, ev_LI, ev_LL, ev_LR, ev_LN, ev_RI, ev_RL, ev_RR, ev_RN, Nat.add_assoc, Nat.reduceAdd, Nat.add_left_cancel_iff, Nat.left_eq_add, Nat.add_eq_left, Nat.reduceEqDiff, reduceIte, if_true, if_false, Option.bind_some, ev_let, pe_na hav, pe_na0 hav, n5, r0]
  · simp only [ev_szI, ev_szL, ev_szR, ev_szN, ev_kdI, ev_kdL, ev_kdR, ev_kdN, ev_lnI, ev_lnL, ev_lnR, ev_lnN, ev_II, ev_IL, ev_IR, ev_IN, ev_LI, ev_LL, ev_LR, ev_LN, ev_RI, ev_RL, ev_RR, ev_RN, Nat.add_assoc, Nat.reduceAdd, Nat.add_left_cancel_iff, Nat.left_eq_add, Nat.add_eq_left, Nat.reduceEqDiff, reduceIte, if_true, if_false, Option.bind_some, ev_let, pe_na hav, pe_na0 hav, n5, r1]
  · simp only [ev_szI, ev_szL, ev_szR, ev_szN, ev_kdI, ev_kdL, ev_kdR, ev_kdN, ev_lnI, ev_lnL, ev_lnR, ev_lnN, ev_II, ev_IL, ev_IR, ev_IN, ev_LI, ev_LL, ev_LR, ev_LN, ev_RI, ev_RL, ev_RR, ev_RN, Nat.add_assoc, Nat.reduceAdd, Nat.add_left_cancel_iff, Nat.left_eq_add, Nat.add_eq_left, Nat.reduceEqDiff, reduceIte, if_true, if_false, Option.bind_some, ev_let, pe_na hav, pe_na0 hav, n5, r2]
  · simp only [ev_szI, ev_szL, ev_szR, ev_szN, ev_kdI, ev_kdL, ev_kdR, ev_kdN, ev_lnI, ev_lnL, ev_lnR, ev_lnN, ev_II, ev_IL, ev_IR, ev_IN, ev_LI, ev_LL, ev_LR, ev_LN, ev_RI, ev_RL, ev_RR, ev_RN, Nat.add_assoc, Nat.reduceAdd, Nat.add_left_cancel_iff, Nat.left_eq_add, Nat.add_eq_left, Nat.reduceEqDiff, reduceIte, if_true, if_false, Option.bind_some, ev_let, pe_na hav, pe_na0 hav, n5, r3]
  · simp only [ev_szI, ev_szL, ev_szR, ev_szN, ev_kdI, ev_kdL, ev_kdR, ev_kdN, ev_lnI, ev_lnL, ev_lnR, ev_lnN, ev_II, ev_IL, ev_IR, ev_IN, ev_LI, ev_LL, ev_LR, ev_LN, ev_RI, ev_RL, ev_RR, ev_RN, Nat.add_assoc, Nat.reduceAdd, Nat.add_left_cancel_iff, Nat.left_eq_add, Nat.add_eq_left, Nat.reduceEqDiff, reduceIte, if_true, if_false, Option.bind_some, ev_let, pe_na hav, pe_na0 hav, n5, r4]
  · simp only [ev_szI, ev_szL, ev_szR, ev_szN, ev_kdI, ev_kdL, ev_kdR, ev_kdN, ev_lnI, ev_lnL, ev_lnR, ev_lnN, ev_II, ev_IL, ev_IR, ev_IN, ev_LI, ev_LL, ev_LR, ev_LN, ev_RI, ev_RL, ev_RR, ev_RN, Nat.add_assoc, Nat.reduceAdd, Nat.add_left_cancel_iff, Nat.left_eq_add, Nat.add_eq_left, Nat.reduceEqDiff, reduceIte, if_true, if_false, Option.bind_some, ev_let, pe_na hav, pe_na0 hav, n5, s0]
  · simp only [ev_szI, ev_szL, ev_szR, ev_szN, ev_kdI, ev_kdL, ev_kdR, ev_kdN, ev_lnI, ev_lnL, ev_lnR, ev_lnN, ev_II, ev_IL, ev_IR, ev_IN, ev_LI, ev_LL, ev_LR, ev_LN, ev_RI, ev_RL, ev_RR, ev_RN, Nat.add_assoc, Nat.reduceAdd, Nat.add_left_cancel_iff, Nat.left_eq_add, Nat.add_eq_left, Nat.reduceEqDiff, reduceIte, if_true, if_false, Option.bind_some, ev_let, pe_na hav, pe_na0 hav, Option.some.injEq]; omega
  · simp only [ev_szI, ev_szL, ev_szR, ev_szN, ev_kdI, ev_kdL, ev_kdR, ev_kdN, ev_lnI, ev_lnL, ev_lnR, ev_lnN, ev_II, ev_IL, ev_IR, ev_IN, ev_LI, ev_LL, ev_LR, ev_LN, ev_RI, ev_RL, ev_RR, ev_RN, Nat.add_assoc, Nat.reduceAdd, Nat.add_left_cancel_iff, Nat.left_eq_add, Nat.add_eq_left, Nat.reduceEqDiff, reduceIte, if_true, if_false, Option.bind_some, ev_let, pe_na hav, pe_na0 hav, Option.some.injEq]; omega
  · rw [← hsv]
    refine ⟨?_, ?_, fun y => ?_, fun y => ?_, fun y => ?_⟩
    all_goals simp only [ev_szI, ev_szL, ev_szR, ev_szN, ev_kdI, ev_kdL, ev_kdR, ev_kdN, ev_lnI, ev_lnL, ev_lnR, ev_lnN, ev_II, ev_IL, ev_IR, ev_IN, ev_LI, ev_LL, ev_LR, ev_LN, ev_RI, ev_RL, ev_RR, ev_RN, Nat.add_assoc, Nat.reduceAdd, Nat.add_left_cancel_iff, Nat.left_eq_add, Nat.add_eq_left, Nat.reduceEqDiff, reduceIte, if_true, if_false, Option.bind_some, ev_let, pe_na hav, pe_na0 hav, pe_nb hav, pe_nb0 hav]
  · have e6 : pm_sz h + 6 + le / 7 = pm_sz v + 1 := by omega
    rw [e6]
    refine ⟨?_, ?_, fun y => ?_, fun y => ?_, fun y => ?_⟩
    all_goals simp only [ev_szI, ev_szL, ev_szR, ev_szN, ev_kdI, ev_kdL, ev_kdR, ev_kdN, ev_lnI, ev_lnL, ev_lnR, ev_lnN, ev_II, ev_IL, ev_IR, ev_IN, ev_LI, ev_LL, ev_LR, ev_LN, ev_RI, ev_RL, ev_RR, ev_RN, Nat.add_assoc, Nat.reduceAdd, Nat.add_left_cancel_iff, Nat.left_eq_add, Nat.add_eq_left, Nat.reduceEqDiff, reduceIte, if_true, if_false, Option.bind_some, ev_let, pe_na hav, pe_na0 hav, pe_nb hav, pe_nb0 hav]
theorem ev_itE {σ ρ : Type} {s : σ → Option (σ ⊕ ρ)} (P : Nat → σ → Prop) (N : Nat) (hs : ∀ i x, i < N → P i x → ∃ y, pm_lim s x = pm_lim s y ∧ P (i + 1) y) {x : σ} (h0 : P 0 x) : ∃ y, pm_lim s x = pm_lim s y ∧ P N y := by
  induction N with
  | zero => exact ⟨x, rfl, h0⟩
  | succ N ih =>
    obtain ⟨y, e, p⟩ := ih (fun i x hi => hs i x (Nat.lt_succ_of_lt hi))
    obtain ⟨z, e2, p2⟩ := hs N y (Nat.lt_succ_self N) p
    exact ⟨z, e.trans e2, p2⟩
