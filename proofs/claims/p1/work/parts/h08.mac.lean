/-! CONSTRUCTORS, eighth: Machine -/
theorem cX5_loop {l0 : pm_H} {a b s d c nw : Nat} (ha : a < pm_sz l0) (hab : a ≠ b) (hb : b < pm_sz l0) (hs : s < pm_sz l0) (hsb : s ≠ b) (hsa : s ≠ a) (hd : d < pm_sz l0) (hdb : d ≠ b) (ka : pm_kd l0 a = 5) (ra : pm_R l0 a 11 = some b) (kb : pm_kd l0 b = 39) (lb : pm_ln l0 b = 200) (ks : pm_kd l0 s = 10) (rs : pm_R l0 s 16 = some nw) (kd : pm_kd l0 d = 0) (rd : pm_R l0 d 1 = some c) : ∃ h', pm_lim sX5_init (.inr (.inr (.inr (.inr (.inr (.inr (.inr (.inr (.inr (.inl ((a, s, d, 0, l0)))))))))))) = some h' ∧ pm_sz h' = pm_sz l0 + 200 ∧ (∀ x, x < pm_sz l0 → x ≠ a → x ≠ b → pe_E l0 h' x) ∧ (pm_kd h' a = 5 ∧ pm_ln h' a = pm_ln l0 a ∧ (∀ y, pm_I h' a y = pm_I l0 a y) ∧ (∀ y, pm_L h' a y = pm_L l0 a y) ∧ (∀ y, pm_R h' a y = if y = 12 then some (pm_sz l0) else pm_R l0 a y)) ∧ (pm_kd h' b = 39 ∧ pm_ln h' b = 200 ∧ ∀ y, y < 200 → pm_R h' b y = some (pm_sz l0 + y)) ∧ (∀ j, j < 200 → pm_kd h' (pm_sz l0 + j) = 3 ∧ (∀ y, pm_I h' (pm_sz l0 + j) y = 0) ∧ pm_R h' (pm_sz l0 + j) 0 = some nw ∧ pm_R h' (pm_sz l0 + j) 1 = some d ∧ pm_R h' (pm_sz l0 + j) 2 = some c) := by
  obtain ⟨z, e, g, ez, s1, f1, ⟨f2, f3, f4⟩, f5⟩ := ev_itE (s := sX5_init) (fun i x => ∃ g : pm_H, x = (.inr (.inr (.inr (.inr (.inr (.inr (.inr (.inr (.inr (.inl ((a, s, d, Int32.ofNat i, g)))))))))))) ∧ pm_sz g = pm_sz l0 + i ∧ (∀ x, x < pm_sz l0 → x ≠ b → pe_E l0 g x) ∧ (pm_kd g b = 39 ∧ pm_ln g b = 200 ∧ ∀ y, pm_R g b y = if y < i then some (pm_sz l0 + y) else pm_R l0 b y) ∧ (∀ j, j < i → pm_kd g (pm_sz l0 + j) = 3 ∧ (∀ y, pm_I g (pm_sz l0 + j) y = 0) ∧ pm_R g (pm_sz l0 + j) 0 = some nw ∧ pm_R g (pm_sz l0 + j) 1 = some d ∧ pm_R g (pm_sz l0 + j) 2 = some c)) 200 (fun i x hi hP => by
    obtain ⟨g, ex, s1, f1, ⟨f2, f3, f4⟩, f5⟩ := hP
    subst ex
    have ga := f1 a ha hab
    have gs := f1 s hs hsb
    have gd := f1 d hd hdb
    have hbg : b < pm_sz g := by omega
    have hag : a < pm_sz g := by omega
    have hsg : s < pm_sz g := by omega
    have hdg : d < pm_sz g := by omega
    have N := pe_new g 3 0 a hag
    have sN : pm_sz (pm_new g 3 0) = pm_sz g + 1 := rfl
    have ns := N.2.2 s hsg
    have nd := N.2.2 d hdg
    obtain ⟨q, eq, q1, q2, q3, q4, q50, q51, q52⟩ := cX3 (h := pm_new g 3 0) (a := pm_sz g) (p := nw) (b := d) (c := c) N.2.1 (by omega) (nd.1.trans (gd.1.trans kd)) ((nd.2.2.2.2 1).trans ((gd.2.2.2.2 1).trans rd))
    have Q : ∀ x, x < pm_sz g → pe_E g q x := fun x hx => pe_E_t (N.2.2 x hx) (q2.2.2.2 x (by omega) (by omega))
    have Qb := Q b hbg
    have kq : pm_kd q (pm_sz g) = 3 := q2.2.1.trans N.2.1.1
    have m1 : ((-1 : Int32) < 0) = True := eq_true (by decide)
    have pi : pm_in (Int32.ofNat i) 200 = True := eq_true (pe_in (by decide) hi)
    have ci : (Int32.ofNat i).toNatClampNeg = i := pe_cm (by omega)
    refine ⟨(.inr (.inr (.inr (.inr (.inr (.inr (.inr (.inr (.inr (.inl ((a, s, d, Int32.ofNat (i + 1), pm_setR q b i (some (pm_sz g)))))))))))))), by
      rw [ev_lim]
      simp only [sX5_init, tX5_init_62, ga.1.trans ka, (ga.2.2.2.2 11).trans ra, f2, f3, if_neg (pe_lt (n := 200) (by decide) hi), if_true, Option.bind_some]
      rw [ev_lim]
      simp only [sX5_init, tX5_init_79, fX10_instanceAt, ns.1.trans (gs.1.trans ks), (ns.2.2.2.2 16).trans ((gs.2.2.2.2 16).trans rs), m1, if_true, Option.bind_some, eq, Qb.1.trans f2, Qb.2.1.trans f3, kq, pi, ci, ev_let, pe_s], ?_⟩
    have S := pe_sR q b i (some (pm_sz g))
    refine ⟨_, rfl, ?_, fun x hx hxb => pe_E_t (f1 x hx hxb) (pe_E_t (Q x (by omega)) (S.2 x hxb)), ⟨Qb.1.trans f2, Qb.2.1.trans f3, fun y => ?_⟩, fun j hj => ?_⟩
    · show pm_sz q = _
      omega
    · rw [ev_RR, if_pos rfl, Qb.2.2.2.2 y, f4 y]
      by_cases e1 : y = i
      · rw [if_pos e1, if_pos (by omega), e1, s1]
      · rw [if_neg e1]
        by_cases e2 : y < i
        · rw [if_pos e2, if_pos (by omega)]
        · rw [if_neg e2, if_neg (by omega)]
    · by_cases e1 : j = i
      · subst e1
        rw [← s1]
        have T := S.2 (pm_sz g) (by omega)
        exact ⟨T.1.trans kq, fun y => (T.2.2.1 y).trans (q3 y), (T.2.2.2.2 0).trans q50, (T.2.2.2.2 1).trans q51, (T.2.2.2.2 2).trans q52⟩
      · have T := pe_E_t (Q (pm_sz l0 + j) (by omega)) (S.2 (pm_sz l0 + j) (by omega))
        obtain ⟨o1, o2, o3, o4, o5⟩ := f5 j (by omega)
        exact ⟨T.1.trans o1, fun y => (T.2.2.1 y).trans (o2 y), (T.2.2.2.2 0).trans o3, (T.2.2.2.2 1).trans o4, (T.2.2.2.2 2).trans o5⟩) (x := (.inr (.inr (.inr (.inr (.inr (.inr (.inr (.inr (.inr (.inl ((a, s, d, 0, l0))))))))))))) ⟨l0, rfl, rfl, fun x _ _ => pe_E_r l0 x, ⟨kb, lb, fun y => by rw [if_neg (by omega)]⟩, fun j hj => absurd hj (Nat.not_lt_zero j)⟩
  have ga := f1 a ha hab
  have p0 : pm_in 0 200 = True := eq_true (pe_in (i := 0) (by decide) (by decide))
  have c0 : (0 : Int32).toNatClampNeg = 0 := by decide
  have S := pe_sR g a 12 (some (pm_sz l0))
  have r0 : pm_R g b 0 = some (pm_sz l0) := by rw [f4 0, if_pos (by decide)]; rfl
  refine ⟨pm_setR g a 12 (some (pm_sz l0)), ?_, s1, fun x hx hxa hxb => pe_E_t (f1 x hx hxb) (S.2 x hxa), ⟨ga.1.trans ka, ga.2.1, ga.2.2.1, ga.2.2.2.1, fun y => ?_⟩, ⟨f2, f3, fun y hy => ?_⟩, fun j hj => ?_⟩
  · rw [e, ez, ev_lim]
    simp only [sX5_init, tX5_init_62, ga.1.trans ka, (ga.2.2.2.2 11).trans ra, f2, f3, if_pos (pe_ge (n := 200)), if_true, Option.bind_some, p0, c0, r0]
  · rw [ev_RR, if_pos rfl, ga.2.2.2.2 y]
  · rw [(S.2 b (Ne.symm hab)).2.2.2.2 y, f4 y, if_pos hy]
  · have T := S.2 (pm_sz l0 + j) (by omega)
    obtain ⟨o1, o2, o3, o4, o5⟩ := f5 j hj
    exact ⟨T.1.trans o1, fun y => (T.2.2.1 y).trans (o2 y), (T.2.2.2.2 0).trans o3, (T.2.2.2.2 1).trans o4, (T.2.2.2.2 2).trans o5⟩
set_option maxHeartbeats 4000000 in
/-- the Machine -/
theorem cX5 {h : pm_H} {a s nw : Nat} (hz : pe_Z h a 5 0) (ha : a < pm_sz h) (ks : pm_kd h s = 10) (hs : s < pm_sz h) (rs : pm_R h s 16 = some nw) : ∃ h', fX5_init h a s = some h' ∧ pm_sz h' = pm_sz h + 215 ∧ pe_K h h' a ∧ (∀ y, pm_I h' a y = 0) ∧ (∀ y, pm_L h' a y = 0) ∧ (pm_R h' a 6 = some (pm_sz h) ∧ pm_R h' a 8 = some s ∧ pm_R h' a 9 = some (pm_sz h + 9) ∧ pm_R h' a 10 = some (pm_sz h + 1) ∧ pm_R h' a 11 = some (pm_sz h + 2) ∧ pm_R h' a 12 = some (pm_sz h + 15)) ∧ (pe_Z h' (pm_sz h) 35 16 ∧ pe_Z h' (pm_sz h + 1) 35 4096) ∧ (pm_kd h' (pm_sz h + 2) = 39 ∧ pm_ln h' (pm_sz h + 2) = 200 ∧ ∀ y, y < 200 → pm_R h' (pm_sz h + 2) y = some (pm_sz h + 15 + y)) ∧ (pm_kd h' (pm_sz h + 3) = 0 ∧ (∀ y, pm_I h' (pm_sz h + 3) y = 0) ∧ pm_R h' (pm_sz h + 3) 0 = some (pm_sz h + 4) ∧ pm_R h' (pm_sz h + 3) 1 = some (pm_sz h + 8) ∧ pm_R h' (pm_sz h + 3) 5 = some (pm_sz h + 5) ∧ pm_R h' (pm_sz h + 3) 7 = some (pm_sz h + 6) ∧ pm_R h' (pm_sz h + 3) 8 = some (pm_sz h + 7)) ∧ (pe_Z h' (pm_sz h + 4) 34 2 ∧ pe_Z h' (pm_sz h + 5) 34 0 ∧ pe_Z h' (pm_sz h + 6) 34 0 ∧ pe_Z h' (pm_sz h + 7) 35 0 ∧ pe_Z h' (pm_sz h + 8) 34 0) ∧ (pm_kd h' (pm_sz h + 9) = 2 ∧ (∀ y, pm_I h' (pm_sz h + 9) y = if y = 0 then 32768 else 0) ∧ pm_R h' (pm_sz h + 9) 1 = some (pm_sz h + 3) ∧ pm_R h' (pm_sz h + 9) 3 = some (pm_sz h + 10) ∧ pm_R h' (pm_sz h + 9) 6 = some (pm_sz h + 11) ∧ pm_R h' (pm_sz h + 9) 8 = some (pm_sz h + 12) ∧ pm_R h' (pm_sz h + 9) 9 = some (pm_sz h + 13) ∧ pm_R h' (pm_sz h + 9) 10 = some (pm_sz h + 14)) ∧ (pe_Z h' (pm_sz h + 10) 34 0 ∧ pe_Z h' (pm_sz h + 11) 35 0 ∧ pe_Z h' (pm_sz h + 12) 34 0 ∧ pe_Z h' (pm_sz h + 13) 32 0 ∧ pe_Z h' (pm_sz h + 14) 34 1001) ∧ (∀ j, j < 200 → pm_kd h' (pm_sz h + 15 + j) = 3 ∧ (∀ y, pm_I h' (pm_sz h + 15 + j) y = 0) ∧ pm_R h' (pm_sz h + 15 + j) 0 = some nw ∧ pm_R h' (pm_sz h + 15 + j) 1 = some (pm_sz h + 3) ∧ pm_R h' (pm_sz h + 15 + j) 2 = some (pm_sz h + 8)) := by
  have hk := hz.1
  have nsa := of_eq_false (pe_ne ks hk (by decide))
  obtain ⟨w, ew⟩ : ∃ w, w = pm_new (pm_new (pm_setR (pm_setR (pm_new (pm_setR (pm_new (pm_setR (pm_new h 35 16) a 6 (some (pm_sz h))) 35 4096) a 10 (some (pm_sz h + 1))) 39 200) a 11 (some (pm_sz h + 2))) a 8 (some s)) 0 0) 34 2 := ⟨_, rfl⟩
  have F : pm_sz w = pm_sz h + 5 ∧ pe_K h w a ∧ (∀ y, pm_I w a y = 0) ∧ (∀ y, pm_L w a y = 0) ∧ (pm_R w a 6 = some (pm_sz h) ∧ pm_R w a 8 = some s ∧ pm_R w a 10 = some (pm_sz h + 1) ∧ pm_R w a 11 = some (pm_sz h + 2)) ∧ pe_Z w (pm_sz h) 35 16 ∧ pe_Z w (pm_sz h + 1) 35 4096 ∧ pe_Z w (pm_sz h + 2) 39 200 ∧ pe_Z w (pm_sz h + 3) 0 0 ∧ pe_Z w (pm_sz h + 4) 34 2 := by
    rw [ew]
    refine ⟨?_, ⟨?_, ?_, ?_, fun x hx hxa => ⟨?_, ?_, fun y => ?_, fun y => ?_, fun y => ?_⟩⟩, fun y => ?_, fun y => ?_, ⟨?_, ?_, ?_, ?_⟩, ⟨?_, ?_, fun y => ?_, fun y => ?_, fun y => ?_⟩, ⟨?_, ?_, fun y => ?_, fun y => ?_, fun y => ?_⟩, ⟨?_, ?_, fun y => ?_, fun y => ?_, fun y => ?_⟩, ⟨?_, ?_, fun y => ?_, fun y => ?_, fun y => ?_⟩, ⟨?_, ?_, fun y => ?_, fun y => ?_, fun y => ?_⟩⟩
    all_goals first
      | (simp only [ev_szI, ev_szL, ev_szR, ev_szN, ev_kdI, ev_kdL, ev_kdR, ev_kdN, ev_lnI, ev_lnL, ev_lnR, ev_lnN, ev_II, ev_IL, ev_IR, ev_IN, ev_LI, ev_LL, ev_LR, ev_LN, ev_RI, ev_RL, ev_RR, ev_RN, Nat.add_assoc, Nat.reduceAdd, Nat.add_left_cancel_iff, Nat.left_eq_add, Nat.add_eq_left, Nat.reduceEqDiff, reduceIte, if_true, if_false, Option.bind_some, ev_let, pe_na ha, pe_na0 ha, pe_nb ha, pe_nb0 ha, hk, hz.2.2.1, hz.2.2.2.1]; done)
      | (simp only [ev_szI, ev_szL, ev_szR, ev_szN, ev_kdI, ev_kdL, ev_kdR, ev_kdN, ev_lnI, ev_lnL, ev_lnR, ev_lnN, ev_II, ev_IL, ev_IR, ev_IN, ev_LI, ev_LL, ev_LR, ev_LN, ev_RI, ev_RL, ev_RR, ev_RN, Nat.add_assoc, Nat.reduceAdd, Nat.add_left_cancel_iff, Nat.left_eq_add, Nat.add_eq_left, Nat.reduceEqDiff, reduceIte, if_true, if_false, Option.bind_some, ev_let, pe_na ha, pe_na0 ha, pe_nb ha, pe_nb0 ha, pe_na hx, pe_na0 hx, eq_false hxa]; done)
      | (simp only [ev_szI, ev_szL, ev_szR, ev_szN, ev_kdI, ev_kdL, ev_kdR, ev_kdN, ev_lnI, ev_lnL, ev_lnR, ev_lnN, ev_II, ev_IL, ev_IR, ev_IN, ev_LI, ev_LL, ev_LR, ev_LN, ev_RI, ev_RL, ev_RR, ev_RN, Nat.add_assoc, Nat.reduceAdd, Nat.add_left_cancel_iff, Nat.left_eq_add, Nat.add_eq_left, Nat.reduceEqDiff, reduceIte, if_true, if_false, Option.bind_some, ev_let]; omega)
  have T1 : fX5_init h a s = pm_lim sX5_init (.inr (.inr (.inr (.inr (.inr (.inl ((a, s, pm_sz h + 4, pm_sz h + 3, pm_sz h + 3, w)))))))) := by
    rw [ew]
    unfold fX5_init
    rw [ev_lim]; simp only [sX5_init, tX5_init_0, ev_szI, ev_szL, ev_szR, ev_szN, ev_kdI, ev_kdL, ev_kdR, ev_kdN, ev_lnI, ev_lnL, ev_lnR, ev_lnN, ev_II, ev_IL, ev_IR, ev_IN, ev_LI, ev_LL, ev_LR, ev_LN, ev_RI, ev_RL, ev_RR, ev_RN, Nat.add_assoc, Nat.reduceAdd, Nat.add_left_cancel_iff, Nat.left_eq_add, Nat.add_eq_left, Nat.reduceEqDiff, reduceIte, if_true, if_false, Option.bind_some, ev_let]
    rw [ev_lim]; simp only [sX5_init, tX5_init_9, ev_szI, ev_szL, ev_szR, ev_szN, ev_kdI, ev_kdL, ev_kdR, ev_kdN, ev_lnI, ev_lnL, ev_lnR, ev_lnN, ev_II, ev_IL, ev_IR, ev_IN, ev_LI, ev_LL, ev_LR, ev_LN, ev_RI, ev_RL, ev_RR, ev_RN, Nat.add_assoc, Nat.reduceAdd, Nat.add_left_cancel_iff, Nat.left_eq_add, Nat.add_eq_left, Nat.reduceEqDiff, reduceIte, if_true, if_false, Option.bind_some, ev_let, pe_na ha, pe_na0 ha, hk]
    rw [ev_lim]; simp only [sX5_init, tX5_init_18, ev_szI, ev_szL, ev_szR, ev_szN, ev_kdI, ev_kdL, ev_kdR, ev_kdN, ev_lnI, ev_lnL, ev_lnR, ev_lnN, ev_II, ev_IL, ev_IR, ev_IN, ev_LI, ev_LL, ev_LR, ev_LN, ev_RI, ev_RL, ev_RR, ev_RN, Nat.add_assoc, Nat.reduceAdd, Nat.add_left_cancel_iff, Nat.left_eq_add, Nat.add_eq_left, Nat.reduceEqDiff, reduceIte, if_true, if_false, Option.bind_some, ev_let, pe_na ha, pe_na0 ha, hk]
    rw [ev_lim]; simp only [sX5_init, tX5_init_28, ev_szI, ev_szL, ev_szR, ev_szN, ev_kdI, ev_kdL, ev_kdR, ev_kdN, ev_lnI, ev_lnL, ev_lnR, ev_lnN, ev_II, ev_IL, ev_IR, ev_IN, ev_LI, ev_LL, ev_LR, ev_LN, ev_RI, ev_RL, ev_RR, ev_RN, Nat.add_assoc, Nat.reduceAdd, Nat.add_left_cancel_iff, Nat.left_eq_add, Nat.add_eq_left, Nat.reduceEqDiff, reduceIte, if_true, if_false, Option.bind_some, ev_let, pe_na ha, pe_na0 ha, hk]
    rw [ev_lim]; simp only [sX5_init, tX5_init_39, ev_szI, ev_szL, ev_szR, ev_szN, ev_kdI, ev_kdL, ev_kdR, ev_kdN, ev_lnI, ev_lnL, ev_lnR, ev_lnN, ev_II, ev_IL, ev_IR, ev_IN, ev_LI, ev_LL, ev_LR, ev_LN, ev_RI, ev_RL, ev_RR, ev_RN, Nat.add_assoc, Nat.reduceAdd, Nat.add_left_cancel_iff, Nat.left_eq_add, Nat.add_eq_left, Nat.reduceEqDiff, reduceIte, if_true, if_false, Option.bind_some, ev_let, pe_na ha, pe_na0 ha, hk]
  obtain ⟨c1, c2, c3, c4, ⟨w6, w8, w10, w11⟩, y0, y1, y2, y3, y4⟩ := F
  have hn0 : ¬ (5 * (if (0 : Int32) < 0 then 0 else (0 : Int32))) < 0 ∧ (5 * (if (0 : Int32) < 0 then 0 else (0 : Int32))).toNatClampNeg * 4 ≤ 536870912 := by decide
  have hl0 : (5 * (if (0 : Int32) < 0 then 0 else (0 : Int32))).toNatClampNeg = 0 := by decide
  obtain ⟨b, eb, v1, v2, v3, v4, ⟨v50, v51, v55, v57, v58⟩, v6, v7, v8, v9⟩ := cX0 (h := w) (a := pm_sz h + 3) (p := pm_sz h + 4) (n := 0) y3 (by omega) hn0
  rw [hl0] at v9
  have Eb : ∀ x, x < pm_sz w → x ≠ pm_sz h + 3 → pe_E w b x := v2.2.2.2
  have sb : pm_sz b = pm_sz h + 9 := by omega
  have N := pe_new b 2 0 a (by omega)
  have sN : pm_sz (pm_new b 2 0) = pm_sz b + 1 := rfl
  obtain ⟨g, eg, g1, g2, g3, g4, ⟨g51, g53, g56, g58, g59, g510⟩, z0, z1, z2, z3, z4⟩ := cX2 (h := pm_new b 2 0) (a := pm_sz b) (p := pm_sz h + 3) N.2.1 (by omega)
  have BG : ∀ x, x < pm_sz b → pe_E b g x := fun x hx => pe_E_t (N.2.2 x hx) (g2.2.2.2 x (by omega) (by omega))
  have WG : ∀ x, x < pm_sz w → x ≠ pm_sz h + 3 → pe_E w g x := fun x hx hx3 => pe_E_t (Eb x hx hx3) (BG x (by omega))
  have ag := WG a (by omega) (by omega)
  have kg : pm_kd g a = 5 := ag.1.trans (c2.2.1.trans hk)
  have S := pe_sR g a 9 (some (pm_sz b))
  have T2 : pm_lim sX5_init (.inr (.inr (.inr (.inr (.inr (.inl ((a, s, pm_sz h + 4, pm_sz h + 3, pm_sz h + 3, w)))))))) = pm_lim sX5_init (.inr (.inr (.inr (.inr (.inr (.inr (.inr (.inr (.inr (.inl ((a, s, pm_sz h + 3, 0, pm_setR g a 9 (some (pm_sz b)))))))))))))) := by
    rw [ev_lim]; simp only [sX5_init, tX5_init_43, eb, Option.bind_some]
    rw [ev_lim]; simp only [sX5_init, tX5_init_47, Option.bind_some]
    rw [ev_lim]; simp only [sX5_init, tX5_init_52, eg, Option.bind_some]
    rw [ev_lim]; simp only [sX5_init, tX5_init_57, kg, if_true, Option.bind_some]
  have b2' := WG (pm_sz h + 2) (by omega) (by omega)
  have sg := WG s (by omega) (by omega)
  have hs' := c2.2.2.2 s hs nsa
  have d3 := BG (pm_sz h + 3) (by omega)
  have sS : pm_sz (pm_setR g a 9 (some (pm_sz b))) = pm_sz h + 15 := by
    show pm_sz g = _
    omega
  have L := cX5_loop (l0 := pm_setR g a 9 (some (pm_sz b))) (a := a) (b := pm_sz h + 2) (s := s) (d := pm_sz h + 3) (c := pm_sz w + 3) (nw := nw) (by omega) (by omega) (by omega) (by omega) (by omega) nsa (by omega) (by omega) kg (by rw [ev_RR, if_pos rfl, if_neg (by decide), ag.2.2.2.2 11]; exact w11) (b2'.1.trans y2.1) (b2'.2.1.trans y2.2.1) ((S.2 s nsa).1.trans (sg.1.trans (hs'.1.trans ks))) (((S.2 s nsa).2.2.2.2 16).trans ((sg.2.2.2.2 16).trans ((hs'.2.2.2.2 16).trans rs))) (d3.1.trans (v2.2.1.trans y3.1)) (((S.2 (pm_sz h + 3) (by omega)).2.2.2.2 1).trans ((d3.2.2.2.2 1).trans v51))
  rw [sS] at L
  obtain ⟨h', eh, o1, o2, ⟨o3, o4, o5, o6, o7⟩, ⟨o8, o9, o10⟩, o11⟩ := L
  have GH : ∀ x, x < pm_sz g → x ≠ a → x ≠ pm_sz h + 2 → pe_E g h' x := fun x hx hxa hxb => pe_E_t (S.2 x hxa) (o2 x (by omega) hxa hxb)
  have WH : ∀ x, x < pm_sz w → x ≠ pm_sz h + 3 → x ≠ a → x ≠ pm_sz h + 2 → pe_E w h' x := fun x hx e3 ea e2 => pe_E_t (WG x hx e3) (GH x (by omega) ea e2)
  have BH : ∀ x, x < pm_sz b → x ≠ a → x ≠ pm_sz h + 2 → pe_E b h' x := fun x hx ea e2 => pe_E_t (BG x hx) (GH x (by omega) ea e2)
  have RA : ∀ y, pm_R h' a y = if y = 12 then some (pm_sz h + 15) else if y = 9 then some (pm_sz b) else pm_R w a y := fun y => by rw [o7 y, ev_RR, if_pos rfl, ag.2.2.2.2 y]
  have mv : ∀ {x y : Nat} {q n : Nat} {g : pm_H}, x = y → pe_Z g y q n → pe_Z g x q n := fun e z => e ▸ z
  have so : ∀ {x y : Nat} {o : Option Nat}, o = some x → x = y → o = some y := fun p e => e ▸ p
  have nb := BH (pm_sz h + 3) (by omega) (by omega) (by omega)
  have nc := GH (pm_sz b) (by omega) (by omega) (by omega)
  have k9 : pm_sz h + 9 = pm_sz b := by omega
  refine ⟨h', by rw [T1, T2, eh], by omega, ⟨by omega, ?_, ?_, fun x hx hxa => pe_E_t (c2.2.2.2 x hx hxa) (WH x (by omega) (by omega) hxa (by omega))⟩, fun y => ?_, fun y => ?_, ⟨?_, ?_, ?_, ?_, ?_, ?_⟩, ⟨pe_E_Z (WH _ (by omega) (by omega) (by omega) (by omega)) y0, pe_E_Z (WH _ (by omega) (by omega) (by omega) (by omega)) y1⟩, ⟨o8, o9, o10⟩, ⟨nb.1.trans (v2.2.1.trans y3.1), fun y => (nb.2.2.1 y).trans (v3 y), (nb.2.2.2.2 0).trans v50, so ((nb.2.2.2.2 1).trans v51) (by omega), so ((nb.2.2.2.2 5).trans v55) (by omega), so ((nb.2.2.2.2 7).trans v57) (by omega), so ((nb.2.2.2.2 8).trans v58) (by omega)⟩, ⟨pe_E_Z (WH _ (by omega) (by omega) (by omega) (by omega)) y4, mv (by omega) (pe_E_Z (BH _ (by omega) (by omega) (by omega)) v6), mv (by omega) (pe_E_Z (BH _ (by omega) (by omega) (by omega)) v7), mv (by omega) (pe_E_Z (BH _ (by omega) (by omega) (by omega)) v8), mv (by omega) (pe_E_Z (BH _ (by omega) (by omega) (by omega)) v9)⟩, ⟨by rw [k9]; exact nc.1.trans (g2.2.1.trans N.2.1.1), fun y => by rw [k9]; exact (nc.2.2.1 y).trans (g3 y), by rw [k9]; exact (nc.2.2.2.2 1).trans g51, by rw [k9]; exact so ((nc.2.2.2.2 3).trans g53) (by omega), by rw [k9]; exact so ((nc.2.2.2.2 6).trans g56) (by omega), by rw [k9]; exact so ((nc.2.2.2.2 8).trans g58) (by omega), by rw [k9]; exact so ((nc.2.2.2.2 9).trans g59) (by omega), by rw [k9]; exact so ((nc.2.2.2.2 10).trans g510) (by omega)⟩, ⟨mv (by omega) (pe_E_Z (GH _ (by omega) (by omega) (by omega)) z0), mv (by omega) (pe_E_Z (GH _ (by omega) (by omega) (by omega)) z1), mv (by omega) (pe_E_Z (GH _ (by omega) (by omega) (by omega)) z2), mv (by omega) (pe_E_Z (GH _ (by omega) (by omega) (by omega)) z3), mv (by omega) (pe_E_Z (GH _ (by omega) (by omega) (by omega)) z4)⟩, fun j hj => ?_⟩
  · rw [o3, hk]
  · rw [o4]; exact ag.2.1.trans c2.2.2.1
  · rw [o5 y]; exact (ag.2.2.1 y).trans (c3 y)
  · rw [o6 y]; exact (ag.2.2.2.1 y).trans (c4 y)
  · rw [RA 6]; exact w6
  · rw [RA 8]; exact w8
  · rw [RA 9, k9]; rfl
  · rw [RA 10]; exact w10
  · rw [RA 11]; exact w11
  · rw [RA 12]; rfl
  · obtain ⟨p1, p2, p3, p4, p5⟩ := o11 j hj
    exact ⟨p1, p2, p3, p4, so p5 (by omega)⟩
