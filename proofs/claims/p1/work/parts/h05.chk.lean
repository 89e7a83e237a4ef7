/-! CONSTRUCTORS, fifth: Checker -/
theorem pe_nlt {m n : Nat} (hm : m ≤ n) (hn : n < 2147483648) : ¬ Int32.ofNat n < Int32.ofNat m := fun q => by
  have := Int32.lt_iff_toInt_lt.mp q
  rw [Int32.toInt_ofNat_of_lt (by omega), Int32.toInt_ofNat_of_lt (by omega)] at this
  omega
theorem pe_plt {m n : Nat} (hm : n < m) (hn : m < 2147483648) : Int32.ofNat n < Int32.ofNat m := by
  apply Int32.lt_iff_toInt_lt.mpr
  rw [Int32.toInt_ofNat_of_lt (by omega), Int32.toInt_ofNat_of_lt (by omega)]
  omega
/-- the Checker's loop: a shape for each type -/
theorem cX1_loop {l0 : pm_H} {a b : Nat} (ha : a < pm_sz l0) (hab : a ≠ b) (hb : b < pm_sz l0) (ka : pm_kd l0 a = 1) (ra : pm_R l0 a 16 = some b) (kb : pm_kd l0 b = 36) (lb : pm_ln l0 b = 128) : ∃ h', pm_lim sX1_init (.inr (.inr (.inr (.inr (.inr (.inr (.inr (.inr (.inr (.inr (.inr (.inr (.inl ((a, 111, l0))))))))))))))) = some h' ∧ pm_sz h' = pm_sz l0 + 17 ∧ (∀ x, x < pm_sz l0 → x ≠ b → pe_E l0 h' x) ∧ (pm_kd h' b = 36 ∧ pm_ln h' b = 128 ∧ ∀ y, pm_R h' b y = if 111 ≤ y ∧ y < 111 + 17 then some (pm_sz l0 + (y - 111)) else pm_R l0 b y) ∧ (∀ j, j < 17 → pm_kd h' (pm_sz l0 + j) = 34 ∧ pm_ln h' (pm_sz l0 + j) = 3 ∧ pm_I h' (pm_sz l0 + j) 0 = 0 ∧ pm_I h' (pm_sz l0 + j) 1 = 1 ∧ pm_I h' (pm_sz l0 + j) 2 = Int32.ofNat (111 + j)) := by
  obtain ⟨z, e, g, ez, s1, f1, ⟨f2, f3, f4⟩, f5⟩ := ev_itE (s := sX1_init) (fun i x => ∃ g : pm_H, x = (.inr (.inr (.inr (.inr (.inr (.inr (.inr (.inr (.inr (.inr (.inr (.inr (.inl ((a, Int32.ofNat (111 + i), g))))))))))))))) ∧ pm_sz g = pm_sz l0 + i ∧ (∀ x, x < pm_sz l0 → x ≠ b → pe_E l0 g x) ∧ (pm_kd g b = 36 ∧ pm_ln g b = 128 ∧ ∀ y, pm_R g b y = if 111 ≤ y ∧ y < 111 + i then some (pm_sz l0 + (y - 111)) else pm_R l0 b y) ∧ (∀ j, j < i → pm_kd g (pm_sz l0 + j) = 34 ∧ pm_ln g (pm_sz l0 + j) = 3 ∧ pm_I g (pm_sz l0 + j) 0 = 0 ∧ pm_I g (pm_sz l0 + j) 1 = 1 ∧ pm_I g (pm_sz l0 + j) 2 = Int32.ofNat (111 + j))) 17 (fun i x hi hP => by
    obtain ⟨g, ex, s1, f1, ⟨f2, f3, f4⟩, f5⟩ := hP
    subst ex
    have ga := f1 a ha hab
    have hbg : b < pm_sz g := by omega
    have hag : a < pm_sz g := by omega
    have c0 : (0 : Int32).toNatClampNeg = 0 := by decide
    have c1 : (1 : Int32).toNatClampNeg = 1 := by decide
    have c2 : (2 : Int32).toNatClampNeg = 2 := by decide
    have ci : (Int32.ofNat (111 + i)).toNatClampNeg = 111 + i := pe_cm (by omega)
    have p0 : pm_in 0 3 = True := eq_true (pe_in (i := 0) (by decide) (by decide))
    have p1 : pm_in 1 3 = True := eq_true (pe_in (i := 1) (by decide) (by decide))
    have p2 : pm_in 2 3 = True := eq_true (pe_in (i := 2) (by decide) (by decide))
    have pi : pm_in (Int32.ofNat (111 + i)) 128 = True := eq_true (pe_in (by decide) (by omega))
    have nl : ¬ (127 : Int32) < Int32.ofNat (111 + i) := pe_nlt (n := 127) (by omega) (by decide)
    refine ⟨(.inr (.inr (.inr (.inr (.inr (.inr (.inr (.inr (.inr (.inr (.inr (.inr (.inl ((a, Int32.ofNat (111 + (i + 1)), pm_setR (pm_setI (pm_setI (pm_setI (pm_new g 34 3) (pm_sz g) 0 0) (pm_sz g) 1 1) (pm_sz g) 2 (Int32.ofNat (111 + i))) b (111 + i) (some (pm_sz g))))))))))))))))), by
      rw [ev_lim]
      simp only [sX1_init, tX1_init_105, if_neg nl, ga.1.trans ka, (ga.2.2.2.2 16).trans ra, if_true, Option.bind_some]
      rw [ev_lim]
      simp only [sX1_init, tX1_init_119, ev_szI, ev_szL, ev_szR, ev_szN, ev_kdI, ev_kdL, ev_kdR, ev_kdN, ev_lnI, ev_lnL, ev_lnR, ev_lnN, ev_II, ev_IL, ev_IR, ev_IN, ev_LI, ev_LL, ev_LR, ev_LN, ev_RI, ev_RL, ev_RR, ev_RN, Nat.add_assoc, Nat.reduceAdd, Nat.add_left_cancel_iff, Nat.left_eq_add, Nat.add_eq_left, Nat.reduceEqDiff, reduceIte, if_true, if_false, Option.bind_some, ev_let, pe_na0 hbg, f2, f3, c0, c1, c2, ci, p0, p1, p2, pi, pe_s], ?_⟩
    refine ⟨_, rfl, ?_, fun x hx hxb => ?_, ⟨?_, ?_, fun y => ?_⟩, fun j hj => ?_⟩
    · simp only [ev_szI, ev_szL, ev_szR, ev_szN, ev_kdI, ev_kdL, ev_kdR, ev_kdN, ev_lnI, ev_lnL, ev_lnR, ev_lnN, ev_II, ev_IL, ev_IR, ev_IN, ev_LI, ev_LL, ev_LR, ev_LN, ev_RI, ev_RL, ev_RR, ev_RN, Nat.add_assoc, Nat.reduceAdd, Nat.add_left_cancel_iff, Nat.left_eq_add, Nat.add_eq_left, Nat.reduceEqDiff, reduceIte, if_true, if_false, Option.bind_some, ev_let, s1]
    · have hxg : x < pm_sz g := by omega
      refine pe_E_t (f1 x hx hxb) ⟨?_, ?_, fun y => ?_, fun y => ?_, fun y => ?_⟩
      all_goals simp only [ev_szI, ev_szL, ev_szR, ev_szN, ev_kdI, ev_kdL, ev_kdR, ev_kdN, ev_lnI, ev_lnL, ev_lnR, ev_lnN, ev_II, ev_IL, ev_IR, ev_IN, ev_LI, ev_LL, ev_LR, ev_LN, ev_RI, ev_RL, ev_RR, ev_RN, Nat.add_assoc, Nat.reduceAdd, Nat.add_left_cancel_iff, Nat.left_eq_add, Nat.add_eq_left, Nat.reduceEqDiff, reduceIte, if_true, if_false, Option.bind_some, ev_let, pe_na0 hxg, eq_false hxb]
    · simp only [ev_szI, ev_szL, ev_szR, ev_szN, ev_kdI, ev_kdL, ev_kdR, ev_kdN, ev_lnI, ev_lnL, ev_lnR, ev_lnN, ev_II, ev_IL, ev_IR, ev_IN, ev_LI, ev_LL, ev_LR, ev_LN, ev_RI, ev_RL, ev_RR, ev_RN, Nat.add_assoc, Nat.reduceAdd, Nat.add_left_cancel_iff, Nat.left_eq_add, Nat.add_eq_left, Nat.reduceEqDiff, reduceIte, if_true, if_false, Option.bind_some, ev_let, pe_na0 hbg, f2]
    · simp only [ev_szI, ev_szL, ev_szR, ev_szN, ev_kdI, ev_kdL, ev_kdR, ev_kdN, ev_lnI, ev_lnL, ev_lnR, ev_lnN, ev_II, ev_IL, ev_IR, ev_IN, ev_LI, ev_LL, ev_LR, ev_LN, ev_RI, ev_RL, ev_RR, ev_RN, Nat.add_assoc, Nat.reduceAdd, Nat.add_left_cancel_iff, Nat.left_eq_add, Nat.add_eq_left, Nat.reduceEqDiff, reduceIte, if_true, if_false, Option.bind_some, ev_let, pe_na0 hbg, f3]
    · simp only [ev_szI, ev_szL, ev_szR, ev_szN, ev_kdI, ev_kdL, ev_kdR, ev_kdN, ev_lnI, ev_lnL, ev_lnR, ev_lnN, ev_II, ev_IL, ev_IR, ev_IN, ev_LI, ev_LL, ev_LR, ev_LN, ev_RI, ev_RL, ev_RR, ev_RN, Nat.add_assoc, Nat.reduceAdd, Nat.add_left_cancel_iff, Nat.left_eq_add, Nat.add_eq_left, Nat.reduceEqDiff, reduceIte, if_true, if_false, Option.bind_some, ev_let, pe_na0 hbg, f4]
      by_cases e1 : y = 111 + i
      · rw [if_pos e1, if_pos (by omega), s1]; congr 1; omega
      · rw [if_neg e1]
        by_cases e2 : 111 ≤ y ∧ y < 111 + i
        · rw [if_pos e2, if_pos (by omega)]
        · rw [if_neg e2, if_neg (by omega)]
    · by_cases e1 : j = i
      · subst e1
        rw [← s1]
        have nb : (pm_sz g = b) = False := pe_nb0 hbg
        simp only [ev_szI, ev_szL, ev_szR, ev_szN, ev_kdI, ev_kdL, ev_kdR, ev_kdN, ev_lnI, ev_lnL, ev_lnR, ev_lnN, ev_II, ev_IL, ev_IR, ev_IN, ev_LI, ev_LL, ev_LR, ev_LN, ev_RI, ev_RL, ev_RR, ev_RN, Nat.add_assoc, Nat.reduceAdd, Nat.add_left_cancel_iff, Nat.left_eq_add, Nat.add_eq_left, Nat.reduceEqDiff, reduceIte, if_true, if_false, Option.bind_some, ev_let, nb, and_self, Nat.zero_ne_one, Nat.one_ne_zero, Nat.reduceEqDiff]
      · have hjg : pm_sz l0 + j < pm_sz g := by omega
        have := f5 j (by omega)
        simp only [ev_szI, ev_szL, ev_szR, ev_szN, ev_kdI, ev_kdL, ev_kdR, ev_kdN, ev_lnI, ev_lnL, ev_lnR, ev_lnN, ev_II, ev_IL, ev_IR, ev_IN, ev_LI, ev_LL, ev_LR, ev_LN, ev_RI, ev_RL, ev_RR, ev_RN, Nat.add_assoc, Nat.reduceAdd, Nat.add_left_cancel_iff, Nat.left_eq_add, Nat.add_eq_left, Nat.reduceEqDiff, reduceIte, if_true, if_false, Option.bind_some, ev_let, pe_na0 hjg, this, and_self]) (x := (.inr (.inr (.inr (.inr (.inr (.inr (.inr (.inr (.inr (.inr (.inr (.inr (.inl ((a, 111, l0)))))))))))))))) ⟨l0, rfl, rfl, fun x _ _ => pe_E_r l0 x, ⟨kb, lb, fun y => by rw [if_neg (by omega)]⟩, fun j hj => absurd hj (Nat.not_lt_zero j)⟩
  refine ⟨g, ?_, s1, f1, ⟨f2, f3, f4⟩, f5⟩
  rw [e, ez, ev_lim]
  have pl : (127 : Int32) < Int32.ofNat (111 + 17) := pe_plt (n := 127) (by decide) (by decide)
  simp only [sX1_init, tX1_init_105, if_pos pl, Option.bind_some]
