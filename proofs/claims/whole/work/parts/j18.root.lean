/-! NUMBERS: roots: class and reference give the same -/
theorem jr_par {e : Int} (h1 : -100000 < e) (h2 : e < 100000) : (Int32.ofInt e - Int32.ofInt e / 2 * 2 = 0) = (e % 2 = 0) := by
  rw [zz_tdiv (by omega) (by omega), show (2 : Int32) = Int32.ofInt 2 from rfl, zz_ml, zz_sb, m3_0]
  by_cases c : 0 ≤ e
  · rw [if_pos c, zz_eq (by omega) (by omega) (by omega) (by omega)]
    exact propext ⟨fun z => by omega, fun z => by omega⟩
  · rw [if_neg c, zz_eq (by omega) (by omega) (by omega) (by omega)]
    exact propext ⟨fun z => by omega, fun z => by omega⟩
theorem jr_hf {e : Int} (h1 : -100000 < e) (h2 : e < 100000) (h : e % 2 = 0) : Int32.ofInt e / 2 - 29 = Int32.ofInt (e / 2 - 29) := by
  rw [zz_tdiv (by omega) (by omega), m3_29, zz_sb]
  congr 2
  split <;> omega
theorem jr_n (x1 : Int32) (h : pm_H) : ∀ (j a : Nat) (e : Int), j + nl a = 53 → a ≠ 0 → -9000 ≤ e - j → e ≤ 9000 → pm_lim sX16_root (.inl (x1, Int64.ofNat a, Int32.ofInt e, h)) = pm_lim sX16_root (.inl (x1, Int64.ofNat (a * 2 ^ j), Int32.ofInt (e - j), h)) := by
  intro j
  induction j with
  | zero =>
    intro a e hj h0 h1 h2
    rw [Nat.pow_zero, Nat.mul_one, show e - ((0 : Nat) : Int) = e by omega]
  | succ j ih =>
    intro a e hj h0 h1 h2
    have n1 := nl_lt a
    have w : 2 ^ nl a ≤ 2 ^ 52 := Nat.pow_le_pow_right (by decide) (by omega)
    have n3 := nl_mul 1 h0
    rw [Nat.pow_one] at n3
    have i := ih (a * 2) (e - 1) (by omega) (by omega) (by omega) (by omega)
    rw [Nat.mul_assoc, ← Nat.pow_succ', show e - 1 - (j : Int) = e - ((j + 1 : Nat) : Int) by omega] at i
    have l : Int64.ofNat a < 4503599627370496 := by rw [n6_4503599627370496, ll_lt (by omega) (by decide)]; omega
    have m1 : Int32.ofInt e + -1 = Int32.ofInt (e - 1) := by rw [m3_1, zz_ng, zz_ad, Int.sub_eq_add_neg]
    rw [← i, ev_lm, aX16_root_0]
    unfold tX16_root_79
    rw [if_pos l, jr_let, jr_let, jr_kl, jr_1, m1]
theorem jr_go (x1 : Int32) (h : pm_H) {a : Nat} {e : Int} (a1 : 4503599627370496 ≤ a) (a2 : a < 9007199254740992) (h1 : -9000 ≤ e) (h2 : e ≤ 9000) : pm_lim sX16_root (.inl (x1, Int64.ofNat a, Int32.ofInt e, h)) = pm_lim sX16_root (.inr (x1, Int64.ofNat (if e % 2 = 0 then a else a * 2), Int32.ofInt (if e % 2 = 0 then e else e - 1), 0, 0, 28, h)) := by
  have l : ∀ z : Nat, 4503599627370496 ≤ z → z < 18014398509481984 → ¬ Int64.ofNat z < 4503599627370496 := fun z q1 q2 => by rw [n6_4503599627370496, ll_lt (by omega) (by decide)]; omega
  have m1 : Int32.ofInt e + -1 = Int32.ofInt (e - 1) := by rw [m3_1, zz_ng, zz_ad, Int.sub_eq_add_neg]
  have p1 := jr_par (e := e) (by omega) (by omega)
  have p2 := jr_par (e := e - 1) (by omega) (by omega)
  by_cases c : e % 2 = 0
  · rw [if_pos c, if_pos c, ev_lm, aX16_root_0]
    unfold tX16_root_79
    rw [if_neg (l a a1 (by omega)), if_pos (by rw [p1]; exact c), jr_kl]
  · rw [if_neg c, if_neg c, ev_lm, aX16_root_0]
    unfold tX16_root_79
    rw [if_neg (l a a1 (by omega)), if_neg (by rw [p1]; exact c), jr_let, jr_let, jr_kl, jr_1, m1, ev_lm, aX16_root_0]
    unfold tX16_root_79
    rw [if_neg (l (a * 2) (by omega) (by omega)), if_pos (by rw [p2]; omega), jr_kl]
def rM2 (X : Nat) : Nat := if sE2 X % 2 = 0 then sA2 X else sA2 X * 2
def rE2 (X : Nat) : Int := if sE2 X % 2 = 0 then sE2 X else sE2 X - 1
def ro2 (X : Nat) : Nat := if so2 X = 1 then X else if so2 X = 3 ∨ ng2 X = true then 2143289344 else if so2 X = 2 then X else f2 false (rt (rM2 X) 56 0 0).2 (rE2 X / 2 - 29) (decide ((rt (rM2 X) 56 0 0).1 ≠ 0))
theorem rM2_b {X : Nat} (x0 : X % 2147483648 ≠ 0) : 4503599627370496 ≤ rM2 X ∧ rM2 X < 18014398509481984 := by
  have s := sn2 x0
  have e : wh2 X * 2 ^ (53 - nl (wh2 X)) = sA2 X := rfl
  rw [e] at s
  unfold rM2
  split <;> omega
theorem rE2_b (X : Nat) : rE2 X % 2 = 0 ∧ -1300 ≤ rE2 X ∧ rE2 X ≤ 1000 := by
  have s := sE2_b X
  unfold rE2
  split <;> omega
theorem mt2_f {H : pm_H} {X : Nat} (x0 : X % 2147483648 ≠ 0) : pm_lim sX16_root (.inl (2, Int64.ofNat (wh2 X), Int32.ofInt (pw2 X), H)) = some (Int64.ofNat (f2 false (rt (rM2 X) 56 0 0).2 (rE2 X / 2 - 29) (decide ((rt (rM2 X) 56 0 0).1 ≠ 0))), H) := by
  have w := wh2_lt X
  have l1 : nl (wh2 X) ≤ 53 := nl_le (by omega)
  have s := sn2 x0
  have eA : wh2 X * 2 ^ (53 - nl (wh2 X)) = sA2 X := rfl
  have eE : pw2 X - ((53 - nl (wh2 X) : Nat) : Int) = sE2 X := rfl
  rw [eA] at s
  have bE := sE2_b X
  have pb := pw2_b X
  have rb := rM2_b x0
  have eb := rE2_b X
  rw [jr_n 2 H (53 - nl (wh2 X)) (wh2 X) (pw2 X) (by omega) (wh2_0 x0) (by omega) (by omega), eA, eE, jr_go 2 H s.2 s.1 (by omega) (by omega)]
  have M := jr_m 2 (Int32.ofInt (rE2 X)) H (m := rM2 X) (by omega) 58 0 0 (by decide) (by decide) (by decide)
  rw [rt_58 rb.2, jr_hf (by omega) (by omega) eb.1] at M
  have g := rt_ge rb.1 rb.2
  have t := rt_lt (rM2 X) 56 0 0 0 (by decide)
  have t : (rt (rM2 X) 56 0 0).2 < 2 ^ 56 := t
  have R := mr2 false (decide ((rt (rM2 X) 56 0 0).1 ≠ 0)) (hi := 0) (lo := (rt (rM2 X) 56 0 0).2) (E := rE2 X / 2 - 29) (by decide) (by omega) rfl (by omega) (by omega) (by omega)
  rw [show bI false = 0 from rfl, show Int64.ofNat 0 = 0 from rfl, Nat.zero_mul, Nat.zero_add] at R
  rw [R, jr_bs] at M
  exact M
theorem mt2 {h : pm_H} (O : mO h) {X : Nat} (hX : X < 4294967296) : fX16_root h 592 2 (Int64.ofNat X) = some (Int64.ofNat (ro2 X), rv h 605 (ng2 X) (so2 X) (wh2 X) (pw2 X)) := by
  have O1 := rv_O 605 (ng2 X) (so2 X) (wh2 X) (pw2 X) O
  have e1 := mf2 (h := h) (a := 605) O.2.2.2.1 hX
  have i0 := rv_I0 h 605 (ng2 X) (so2 X) (wh2 X) (pw2 X)
  have i1 := rv_I1 h 605 (ng2 X) (so2 X) (wh2 X) (pw2 X)
  have i2 := rv_L2 h 605 (ng2 X) (so2 X) (wh2 X) (pw2 X)
  have i3 := rv_I3 h 605 (ng2 X) (so2 X) (wh2 X) (pw2 X)
  have cX := so2_c X
  have s3 : ∀ s : Nat, s ≤ 3 → (Int32.ofInt (s : Int) = (3 : Int32)) = (s = 3) := fun s hs => so2_i s 3 hs (by decide)
  have s2 : ∀ s : Nat, s ≤ 3 → (Int32.ofInt (s : Int) = (2 : Int32)) = (s = 2) := fun s hs => so2_i s 2 hs (by decide)
  have s1 : ∀ s : Nat, s ≤ 3 → (Int32.ofInt (s : Int) = (1 : Int32)) = (s = 1) := fun s hs => so2_i s 1 hs (by decide)
  have nn : fX16_noneOf 2 = Int64.ofNat 2143289344 := by decide
  unfold fX16_root ro2
  rw [if_pos O.1, O.2.1, jr_bs, if_pos O.2.2.2.1, e1, jr_bs]
  generalize rv h 605 (ng2 X) (so2 X) (wh2 X) (pw2 X) = H at *
  rw [if_pos O1.1, O1.2.1, jr_bs, if_pos O1.2.2.2.1]
  simp only [i0, i1, i2, i3, s3 (so2 X) (by omega), s2 (so2 X) (by omega), s1 (so2 X) (by omega), bI_0, nn, jr_let]
  by_cases c1 : so2 X = 1
  · simp (disch := omega) only [c1, ↓reduceIte, jr_kl, jr_kr, ↓jr_let, jr_bs, and_true, true_and, and_false, false_and, or_true, true_or, or_false, false_or, not_true_eq_false, not_false_eq_true, b_let, b_lef, b_ltt, b_ltf, b_eqt, b_eqf, bz_let, bz_lef, bz_ltt, bz_ltf, bz_eqt, bz_eqf, Nat.reducePow, Nat.reduceMul, Nat.reduceAdd, Nat.reduceSub, Nat.reduceMod, Nat.reduceDiv, Int.reduceAdd, Int.reduceSub, Int.reduceMul, Int.reduceNeg, Int.reduceToNat, Int.toNat_natCast]
  by_cases c2 : so2 X = 3
  · simp (disch := omega) only [c1, c2, ↓reduceIte, jr_kl, jr_kr, ↓jr_let, jr_bs, and_true, true_and, and_false, false_and, or_true, true_or, or_false, false_or, not_true_eq_false, not_false_eq_true, b_let, b_lef, b_ltt, b_ltf, b_eqt, b_eqf, bz_let, bz_lef, bz_ltt, bz_ltf, bz_eqt, bz_eqf, Nat.reducePow, Nat.reduceMul, Nat.reduceAdd, Nat.reduceSub, Nat.reduceMod, Nat.reduceDiv, Int.reduceAdd, Int.reduceSub, Int.reduceMul, Int.reduceNeg, Int.reduceToNat, Int.toNat_natCast]
  by_cases c3 : ng2 X = true
  · simp (disch := omega) only [c1, c2, c3, ↓reduceIte, jr_kl, jr_kr, ↓jr_let, jr_bs, and_true, true_and, and_false, false_and, or_true, true_or, or_false, false_or, not_true_eq_false, not_false_eq_true, b_let, b_lef, b_ltt, b_ltf, b_eqt, b_eqf, bz_let, bz_lef, bz_ltt, bz_ltf, bz_eqt, bz_eqf, Nat.reducePow, Nat.reduceMul, Nat.reduceAdd, Nat.reduceSub, Nat.reduceMod, Nat.reduceDiv, Int.reduceAdd, Int.reduceSub, Int.reduceMul, Int.reduceNeg, Int.reduceToNat, Int.toNat_natCast, reduceCtorEq]
  have c3' : ng2 X = false := Bool.eq_false_iff.mpr c3
  by_cases c4 : so2 X = 2
  · simp (disch := omega) only [c1, c2, c3', c4, ↓reduceIte, jr_kl, jr_kr, ↓jr_let, jr_bs, and_true, true_and, and_false, false_and, or_true, true_or, or_false, false_or, not_true_eq_false, not_false_eq_true, b_let, b_lef, b_ltt, b_ltf, b_eqt, b_eqf, bz_let, bz_lef, bz_ltt, bz_ltf, bz_eqt, bz_eqf, Nat.reducePow, Nat.reduceMul, Nat.reduceAdd, Nat.reduceSub, Nat.reduceMod, Nat.reduceDiv, Int.reduceAdd, Int.reduceSub, Int.reduceMul, Int.reduceNeg, Int.reduceToNat, Int.toNat_natCast, reduceCtorEq]
  have F := mt2_f (H := H) (X := X) (by omega)
  simp (disch := omega) only [c1, c2, c3', c4, F, ↓reduceIte, jr_kl, jr_kr, ↓jr_let, jr_bs, and_true, true_and, and_false, false_and, or_true, true_or, or_false, false_or, not_true_eq_false, not_false_eq_true, b_let, b_lef, b_ltt, b_ltf, b_eqt, b_eqf, bz_let, bz_lef, bz_ltt, bz_ltf, bz_eqt, bz_eqf, Nat.reducePow, Nat.reduceMul, Nat.reduceAdd, Nat.reduceSub, Nat.reduceMod, Nat.reduceDiv, Int.reduceAdd, Int.reduceSub, Int.reduceMul, Int.reduceNeg, Int.reduceToNat, Int.toNat_natCast, reduceCtorEq]
theorem ct2 {X : Nat} (hX : X < 4294967296) (nX : so2 X ≠ 3) : fX8_root 2 (Int64.ofNat X) = some (Int64.ofNat (ro2 X)) := by
  have cX := so2_c X
  have nn : fX8_none 2 = Int64.ofNat 2143289344 := by decide
  unfold fX8_root ro2
  by_cases c1 : so2 X = 1
  · simp (disch := omega) only [cf2_zero hX, bI_0, decide_eq_false_iff_not, c1, ↓reduceIte, jr_kl, jr_kr, ↓jr_let, jr_bs, and_true, true_and, and_false, false_and, or_true, true_or, or_false, false_or, not_true_eq_false, not_false_eq_true, b_let, b_lef, b_ltt, b_ltf, b_eqt, b_eqf, bz_let, bz_lef, bz_ltt, bz_ltf, bz_eqt, bz_eqf, Nat.reducePow, Nat.reduceMul, Nat.reduceAdd, Nat.reduceSub, Nat.reduceMod, Nat.reduceDiv, Int.reduceAdd, Int.reduceSub, Int.reduceMul, Int.reduceNeg, Int.reduceToNat, Int.toNat_natCast]
  by_cases c3 : ng2 X = true
  · simp (disch := omega) only [cf2_zero hX, cf2_minus hX, bI_0, decide_eq_false_iff_not, c1, c3, nn, ↓reduceIte, jr_kl, jr_kr, ↓jr_let, jr_bs, and_true, true_and, and_false, false_and, or_true, true_or, or_false, false_or, not_true_eq_false, not_false_eq_true, b_let, b_lef, b_ltt, b_ltf, b_eqt, b_eqf, bz_let, bz_lef, bz_ltt, bz_ltf, bz_eqt, bz_eqf, Nat.reducePow, Nat.reduceMul, Nat.reduceAdd, Nat.reduceSub, Nat.reduceMod, Nat.reduceDiv, Int.reduceAdd, Int.reduceSub, Int.reduceMul, Int.reduceNeg, Int.reduceToNat, Int.toNat_natCast, reduceCtorEq]
  have c3' : ng2 X = false := Bool.eq_false_iff.mpr c3
  by_cases c4 : so2 X = 2
  · simp (disch := omega) only [cf2_zero hX, cf2_minus hX, cf2_inf hX, bI_0, decide_eq_false_iff_not, c1, c3', c4, ↓reduceIte, jr_kl, jr_kr, ↓jr_let, jr_bs, and_true, true_and, and_false, false_and, or_true, true_or, or_false, false_or, not_true_eq_false, not_false_eq_true, b_let, b_lef, b_ltt, b_ltf, b_eqt, b_eqf, bz_let, bz_lef, bz_ltt, bz_ltf, bz_eqt, bz_eqf, Nat.reducePow, Nat.reduceMul, Nat.reduceAdd, Nat.reduceSub, Nat.reduceMod, Nat.reduceDiv, Int.reduceAdd, Int.reduceSub, Int.reduceMul, Int.reduceNeg, Int.reduceToNat, Int.toNat_natCast, reduceCtorEq]
  have x0 : X % 2147483648 ≠ 0 := by omega
  have s := sn2 x0
  have eA : wh2 X * 2 ^ (53 - nl (wh2 X)) = sA2 X := rfl
  have eE : pw2 X - ((53 - nl (wh2 X) : Nat) : Int) = sE2 X := rfl
  rw [eA] at s
  have bE := sE2_b X
  have rb := rM2_b x0
  have eb := rE2_b X
  have g := rt_ge rb.1 rb.2
  have t := rt_lt (rM2 X) 56 0 0 0 (by decide)
  have t : (rt (rM2 X) 56 0 0).2 < 2 ^ 56 := t
  have o1 : od (rt (rM2 X) 56 0 0).2 (decide ((rt (rM2 X) 56 0 0).1 ≠ 0)) < 18446744073709551616 := by
    unfold od
    split <;> omega
  have L := jr_c 2 (Int32.ofInt (rE2 X)) (m := rM2 X) (by omega) 56 0 0 (by decide) (by decide) (by decide)
  have R := cr2 false o1 (E := rE2 X / 2 - 29) (by omega) (by omega)
  rw [show bI false = 0 from rfl] at R
  rw [jr_hf (by omega) (by omega) eb.1, R] at L
  have n1 : 55 < nl (rt (rM2 X) 56 0 0).2 := nl_gt (L := 55) g
  have q := rd_q_c 24 (-149) (rt (rM2 X) 56 0 0).2 (rE2 X / 2 - 29)
  have f0 : (rt (rM2 X) 56 0 0).2 ≠ 0 := by omega
  have o0 : od (rt (rM2 X) 56 0 0).2 (decide ((rt (rM2 X) 56 0 0).1 ≠ 0)) ≠ 0 := by
    unfold od
    split <;> omega
  have F : f2 false (od (rt (rM2 X) 56 0 0).2 (decide ((rt (rM2 X) 56 0 0).1 ≠ 0))) (rE2 X / 2 - 29) false = f2 false (rt (rM2 X) 56 0 0).2 (rE2 X / 2 - 29) (decide ((rt (rM2 X) 56 0 0).1 ≠ 0)) := by
    unfold f2 fl
    rw [if_neg f0, if_neg o0, ← rd_od _ (by decide) (by omega)]
  rw [F] at L
  have m1 : Int32.ofInt (sE2 X) + -1 = Int32.ofInt (sE2 X - 1) := by rw [m3_1, zz_ng, zz_ad, Int.sub_eq_add_neg]
  simp (disch := omega) only [cf2_zero hX, cf2_minus hX, cf2_inf hX, bI_0, decide_eq_false_iff_not, c1, c3', c4, cs2 hX x0, cq2 hX x0, eA, eE, zz_odd, ↓reduceIte, jr_kl, jr_kr, ↓jr_let, jr_bs, and_true, true_and, and_false, false_and, or_true, true_or, or_false, false_or, not_true_eq_false, not_false_eq_true, b_let, b_lef, b_ltt, b_ltf, b_eqt, b_eqf, bz_let, bz_lef, bz_ltt, bz_ltf, bz_eqt, bz_eqf, Nat.reducePow, Nat.reduceMul, Nat.reduceAdd, Nat.reduceSub, Nat.reduceMod, Nat.reduceDiv, Int.reduceAdd, Int.reduceSub, Int.reduceMul, Int.reduceNeg, Int.reduceToNat, Int.toNat_natCast, reduceCtorEq]
  by_cases c5 : sE2 X % 2 = 0
  · have r1 : rM2 X = sA2 X := by unfold rM2; rw [if_pos c5]
    have r2 : rE2 X = sE2 X := by unfold rE2; rw [if_pos c5]
    rw [if_pos c5, ← r1, ← r2]
    exact L
  · have r1 : rM2 X = sA2 X * 2 := by unfold rM2; rw [if_neg c5]
    have r2 : rE2 X = sE2 X - 1 := by unfold rE2; rw [if_neg c5]
    rw [if_neg c5, jr_1, m1, ← r1, ← r2]
    exact L
def rM3 (X : Nat) : Nat := if sE3 X % 2 = 0 then sA3 X else sA3 X * 2
def rE3 (X : Nat) : Int := if sE3 X % 2 = 0 then sE3 X else sE3 X - 1
def ro3 (X : Nat) : Nat := if so3 X = 1 then X else if so3 X = 3 ∨ ng3 X = true then 9221120237041090560 else if so3 X = 2 then X else f3 false (rt (rM3 X) 56 0 0).2 (rE3 X / 2 - 29) (decide ((rt (rM3 X) 56 0 0).1 ≠ 0))
theorem rM3_b {X : Nat} (x0 : X % 9223372036854775808 ≠ 0) : 4503599627370496 ≤ rM3 X ∧ rM3 X < 18014398509481984 := by
  have s := sn3 x0
  have e : wh3 X * 2 ^ (53 - nl (wh3 X)) = sA3 X := rfl
  rw [e] at s
  unfold rM3
  split <;> omega
theorem rE3_b (X : Nat) : rE3 X % 2 = 0 ∧ -1300 ≤ rE3 X ∧ rE3 X ≤ 1000 := by
  have s := sE3_b X
  unfold rE3
  split <;> omega
theorem mt3_f {H : pm_H} {X : Nat} (x0 : X % 9223372036854775808 ≠ 0) : pm_lim sX16_root (.inl (3, Int64.ofNat (wh3 X), Int32.ofInt (pw3 X), H)) = some (Int64.ofNat (f3 false (rt (rM3 X) 56 0 0).2 (rE3 X / 2 - 29) (decide ((rt (rM3 X) 56 0 0).1 ≠ 0))), H) := by
  have w := wh3_lt X
  have l1 : nl (wh3 X) ≤ 53 := nl_le (by omega)
  have s := sn3 x0
  have eA : wh3 X * 2 ^ (53 - nl (wh3 X)) = sA3 X := rfl
  have eE : pw3 X - ((53 - nl (wh3 X) : Nat) : Int) = sE3 X := rfl
  rw [eA] at s
  have bE := sE3_b X
  have pb := pw3_b X
  have rb := rM3_b x0
  have eb := rE3_b X
  rw [jr_n 3 H (53 - nl (wh3 X)) (wh3 X) (pw3 X) (by omega) (wh3_0 x0) (by omega) (by omega), eA, eE, jr_go 3 H s.2 s.1 (by omega) (by omega)]
  have M := jr_m 3 (Int32.ofInt (rE3 X)) H (m := rM3 X) (by omega) 58 0 0 (by decide) (by decide) (by decide)
  rw [rt_58 rb.2, jr_hf (by omega) (by omega) eb.1] at M
  have g := rt_ge rb.1 rb.2
  have t := rt_lt (rM3 X) 56 0 0 0 (by decide)
  have t : (rt (rM3 X) 56 0 0).2 < 2 ^ 56 := t
  have R := mr3 false (decide ((rt (rM3 X) 56 0 0).1 ≠ 0)) (hi := 0) (lo := (rt (rM3 X) 56 0 0).2) (E := rE3 X / 2 - 29) (by decide) (by omega) rfl (by omega) (by omega) (by omega)
  rw [show bI false = 0 from rfl, show Int64.ofNat 0 = 0 from rfl, Nat.zero_mul, Nat.zero_add] at R
  rw [R, jr_bs] at M
  exact M
theorem mt3 {h : pm_H} (O : mO h) {X : Nat} (hX : X < 18446744073709551616) : fX16_root h 592 3 (Int64.ofNat X) = some (Int64.ofNat (ro3 X), rv h 605 (ng3 X) (so3 X) (wh3 X) (pw3 X)) := by
  have O1 := rv_O 605 (ng3 X) (so3 X) (wh3 X) (pw3 X) O
  have e1 := mf3 (h := h) (a := 605) O.2.2.2.1 hX
  have i0 := rv_I0 h 605 (ng3 X) (so3 X) (wh3 X) (pw3 X)
  have i1 := rv_I1 h 605 (ng3 X) (so3 X) (wh3 X) (pw3 X)
  have i2 := rv_L2 h 605 (ng3 X) (so3 X) (wh3 X) (pw3 X)
  have i3 := rv_I3 h 605 (ng3 X) (so3 X) (wh3 X) (pw3 X)
  have cX := so3_c X
  have s3 : ∀ s : Nat, s ≤ 3 → (Int32.ofInt (s : Int) = (3 : Int32)) = (s = 3) := fun s hs => so3_i s 3 hs (by decide)
  have s2 : ∀ s : Nat, s ≤ 3 → (Int32.ofInt (s : Int) = (2 : Int32)) = (s = 2) := fun s hs => so3_i s 2 hs (by decide)
  have s1 : ∀ s : Nat, s ≤ 3 → (Int32.ofInt (s : Int) = (1 : Int32)) = (s = 1) := fun s hs => so3_i s 1 hs (by decide)
  have nn : fX16_noneOf 3 = Int64.ofNat 9221120237041090560 := by decide
  unfold fX16_root ro3
  rw [if_pos O.1, O.2.1, jr_bs, if_pos O.2.2.2.1, e1, jr_bs]
  generalize rv h 605 (ng3 X) (so3 X) (wh3 X) (pw3 X) = H at *
  rw [if_pos O1.1, O1.2.1, jr_bs, if_pos O1.2.2.2.1]
  simp only [i0, i1, i2, i3, s3 (so3 X) (by omega), s2 (so3 X) (by omega), s1 (so3 X) (by omega), bI_0, nn, jr_let]
  by_cases c1 : so3 X = 1
  · simp (disch := omega) only [c1, ↓reduceIte, jr_kl, jr_kr, ↓jr_let, jr_bs, and_true, true_and, and_false, false_and, or_true, true_or, or_false, false_or, not_true_eq_false, not_false_eq_true, b_let, b_lef, b_ltt, b_ltf, b_eqt, b_eqf, bz_let, bz_lef, bz_ltt, bz_ltf, bz_eqt, bz_eqf, Nat.reducePow, Nat.reduceMul, Nat.reduceAdd, Nat.reduceSub, Nat.reduceMod, Nat.reduceDiv, Int.reduceAdd, Int.reduceSub, Int.reduceMul, Int.reduceNeg, Int.reduceToNat, Int.toNat_natCast]
  by_cases c2 : so3 X = 3
  · simp (disch := omega) only [c1, c2, ↓reduceIte, jr_kl, jr_kr, ↓jr_let, jr_bs, and_true, true_and, and_false, false_and, or_true, true_or, or_false, false_or, not_true_eq_false, not_false_eq_true, b_let, b_lef, b_ltt, b_ltf, b_eqt, b_eqf, bz_let, bz_lef, bz_ltt, bz_ltf, bz_eqt, bz_eqf, Nat.reducePow, Nat.reduceMul, Nat.reduceAdd, Nat.reduceSub, Nat.reduceMod, Nat.reduceDiv, Int.reduceAdd, Int.reduceSub, Int.reduceMul, Int.reduceNeg, Int.reduceToNat, Int.toNat_natCast]
  by_cases c3 : ng3 X = true
  · simp (disch := omega) only [c1, c2, c3, ↓reduceIte, jr_kl, jr_kr, ↓jr_let, jr_bs, and_true, true_and, and_false, false_and, or_true, true_or, or_false, false_or, not_true_eq_false, not_false_eq_true, b_let, b_lef, b_ltt, b_ltf, b_eqt, b_eqf, bz_let, bz_lef, bz_ltt, bz_ltf, bz_eqt, bz_eqf, Nat.reducePow, Nat.reduceMul, Nat.reduceAdd, Nat.reduceSub, Nat.reduceMod, Nat.reduceDiv, Int.reduceAdd, Int.reduceSub, Int.reduceMul, Int.reduceNeg, Int.reduceToNat, Int.toNat_natCast, reduceCtorEq]
  have c3' : ng3 X = false := Bool.eq_false_iff.mpr c3
  by_cases c4 : so3 X = 2
  · simp (disch := omega) only [c1, c2, c3', c4, ↓reduceIte, jr_kl, jr_kr, ↓jr_let, jr_bs, and_true, true_and, and_false, false_and, or_true, true_or, or_false, false_or, not_true_eq_false, not_false_eq_true, b_let, b_lef, b_ltt, b_ltf, b_eqt, b_eqf, bz_let, bz_lef, bz_ltt, bz_ltf, bz_eqt, bz_eqf, Nat.reducePow, Nat.reduceMul, Nat.reduceAdd, Nat.reduceSub, Nat.reduceMod, Nat.reduceDiv, Int.reduceAdd, Int.reduceSub, Int.reduceMul, Int.reduceNeg, Int.reduceToNat, Int.toNat_natCast, reduceCtorEq]
  have F := mt3_f (H := H) (X := X) (by omega)
  simp (disch := omega) only [c1, c2, c3', c4, F, ↓reduceIte, jr_kl, jr_kr, ↓jr_let, jr_bs, and_true, true_and, and_false, false_and, or_true, true_or, or_false, false_or, not_true_eq_false, not_false_eq_true, b_let, b_lef, b_ltt, b_ltf, b_eqt, b_eqf, bz_let, bz_lef, bz_ltt, bz_ltf, bz_eqt, bz_eqf, Nat.reducePow, Nat.reduceMul, Nat.reduceAdd, Nat.reduceSub, Nat.reduceMod, Nat.reduceDiv, Int.reduceAdd, Int.reduceSub, Int.reduceMul, Int.reduceNeg, Int.reduceToNat, Int.toNat_natCast, reduceCtorEq]
theorem ct3 {X : Nat} (hX : X < 18446744073709551616) (nX : so3 X ≠ 3) : fX8_root 3 (Int64.ofNat X) = some (Int64.ofNat (ro3 X)) := by
  have cX := so3_c X
  have nn : fX8_none 3 = Int64.ofNat 9221120237041090560 := by decide
  unfold fX8_root ro3
  by_cases c1 : so3 X = 1
  · simp (disch := omega) only [cf3_zero hX, bI_0, decide_eq_false_iff_not, c1, ↓reduceIte, jr_kl, jr_kr, ↓jr_let, jr_bs, and_true, true_and, and_false, false_and, or_true, true_or, or_false, false_or, not_true_eq_false, not_false_eq_true, b_let, b_lef, b_ltt, b_ltf, b_eqt, b_eqf, bz_let, bz_lef, bz_ltt, bz_ltf, bz_eqt, bz_eqf, Nat.reducePow, Nat.reduceMul, Nat.reduceAdd, Nat.reduceSub, Nat.reduceMod, Nat.reduceDiv, Int.reduceAdd, Int.reduceSub, Int.reduceMul, Int.reduceNeg, Int.reduceToNat, Int.toNat_natCast]
  by_cases c3 : ng3 X = true
  · simp (disch := omega) only [cf3_zero hX, cf3_minus hX, bI_0, decide_eq_false_iff_not, c1, c3, nn, ↓reduceIte, jr_kl, jr_kr, ↓jr_let, jr_bs, and_true, true_and, and_false, false_and, or_true, true_or, or_false, false_or, not_true_eq_false, not_false_eq_true, b_let, b_lef, b_ltt, b_ltf, b_eqt, b_eqf, bz_let, bz_lef, bz_ltt, bz_ltf, bz_eqt, bz_eqf, Nat.reducePow, Nat.reduceMul, Nat.reduceAdd, Nat.reduceSub, Nat.reduceMod, Nat.reduceDiv, Int.reduceAdd, Int.reduceSub, Int.reduceMul, Int.reduceNeg, Int.reduceToNat, Int.toNat_natCast, reduceCtorEq]
  have c3' : ng3 X = false := Bool.eq_false_iff.mpr c3
  by_cases c4 : so3 X = 2
  · simp (disch := omega) only [cf3_zero hX, cf3_minus hX, cf3_inf hX, bI_0, decide_eq_false_iff_not, c1, c3', c4, ↓reduceIte, jr_kl, jr_kr, ↓jr_let, jr_bs, and_true, true_and, and_false, false_and, or_true, true_or, or_false, false_or, not_true_eq_false, not_false_eq_true, b_let, b_lef, b_ltt, b_ltf, b_eqt, b_eqf, bz_let, bz_lef, bz_ltt, bz_ltf, bz_eqt, bz_eqf, Nat.reducePow, Nat.reduceMul, Nat.reduceAdd, Nat.reduceSub, Nat.reduceMod, Nat.reduceDiv, Int.reduceAdd, Int.reduceSub, Int.reduceMul, Int.reduceNeg, Int.reduceToNat, Int.toNat_natCast, reduceCtorEq]
  have x0 : X % 9223372036854775808 ≠ 0 := by omega
  have s := sn3 x0
  have eA : wh3 X * 2 ^ (53 - nl (wh3 X)) = sA3 X := rfl
  have eE : pw3 X - ((53 - nl (wh3 X) : Nat) : Int) = sE3 X := rfl
  rw [eA] at s
  have bE := sE3_b X
  have rb := rM3_b x0
  have eb := rE3_b X
  have g := rt_ge rb.1 rb.2
  have t := rt_lt (rM3 X) 56 0 0 0 (by decide)
  have t : (rt (rM3 X) 56 0 0).2 < 2 ^ 56 := t
  have o1 : od (rt (rM3 X) 56 0 0).2 (decide ((rt (rM3 X) 56 0 0).1 ≠ 0)) < 18446744073709551616 := by
    unfold od
    split <;> omega
  have L := jr_c 3 (Int32.ofInt (rE3 X)) (m := rM3 X) (by omega) 56 0 0 (by decide) (by decide) (by decide)
  have R := cr3 false o1 (E := rE3 X / 2 - 29) (by omega) (by omega)
  rw [show bI false = 0 from rfl] at R
  rw [jr_hf (by omega) (by omega) eb.1, R] at L
  have n1 : 55 < nl (rt (rM3 X) 56 0 0).2 := nl_gt (L := 55) g
  have q := rd_q_c 53 (-1074) (rt (rM3 X) 56 0 0).2 (rE3 X / 2 - 29)
  have f0 : (rt (rM3 X) 56 0 0).2 ≠ 0 := by omega
  have o0 : od (rt (rM3 X) 56 0 0).2 (decide ((rt (rM3 X) 56 0 0).1 ≠ 0)) ≠ 0 := by
    unfold od
    split <;> omega
  have F : f3 false (od (rt (rM3 X) 56 0 0).2 (decide ((rt (rM3 X) 56 0 0).1 ≠ 0))) (rE3 X / 2 - 29) false = f3 false (rt (rM3 X) 56 0 0).2 (rE3 X / 2 - 29) (decide ((rt (rM3 X) 56 0 0).1 ≠ 0)) := by
    unfold f3 fl
    rw [if_neg f0, if_neg o0, ← rd_od _ (by decide) (by omega)]
  rw [F] at L
  have m1 : Int32.ofInt (sE3 X) + -1 = Int32.ofInt (sE3 X - 1) := by rw [m3_1, zz_ng, zz_ad, Int.sub_eq_add_neg]
  simp (disch := omega) only [cf3_zero hX, cf3_minus hX, cf3_inf hX, bI_0, decide_eq_false_iff_not, c1, c3', c4, cs3 hX x0, cq3 hX x0, eA, eE, zz_odd, ↓reduceIte, jr_kl, jr_kr, ↓jr_let, jr_bs, and_true, true_and, and_false, false_and, or_true, true_or, or_false, false_or, not_true_eq_false, not_false_eq_true, b_let, b_lef, b_ltt, b_ltf, b_eqt, b_eqf, bz_let, bz_lef, bz_ltt, bz_ltf, bz_eqt, bz_eqf, Nat.reducePow, Nat.reduceMul, Nat.reduceAdd, Nat.reduceSub, Nat.reduceMod, Nat.reduceDiv, Int.reduceAdd, Int.reduceSub, Int.reduceMul, Int.reduceNeg, Int.reduceToNat, Int.toNat_natCast, reduceCtorEq]
  by_cases c5 : sE3 X % 2 = 0
  · have r1 : rM3 X = sA3 X := by unfold rM3; rw [if_pos c5]
    have r2 : rE3 X = sE3 X := by unfold rE3; rw [if_pos c5]
    rw [if_pos c5, ← r1, ← r2]
    exact L
  · have r1 : rM3 X = sA3 X * 2 := by unfold rM3; rw [if_neg c5]
    have r2 : rE3 X = sE3 X - 1 := by unfold rE3; rw [if_neg c5]
    rw [if_neg c5, jr_1, m1, ← r1, ← r2]
    exact L
