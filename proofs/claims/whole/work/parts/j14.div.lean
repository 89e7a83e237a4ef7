/-! NUMBERS: quotients: the loops -/
theorem ll_dv {a b : Nat} (ha : a < 9223372036854775808) (hb : b < 9223372036854775808) : Int64.ofNat a / Int64.ofNat b = Int64.ofNat (a / b) := (Int64.ofNat_div (by omega) (by omega)).symm
theorem jq_a (x1 x6 : Int32) (h : pm_H) (b : Int64) : ∀ (j a : Nat) (p : Int), j + nl a = 53 → a ≠ 0 → -9000 ≤ p - j → p ≤ 9000 → pm_lim sX16_quotient (.inr (.inl (x1, x6, Int64.ofNat a, b, Int32.ofInt p, h))) = pm_lim sX16_quotient (.inr (.inr (.inl (x1, x6, Int64.ofNat (a * 2 ^ j), b, Int32.ofInt (p - j), h)))) := by
  intro j
  induction j with
  | zero =>
    intro a p hj h0 hp1 hp2
    have n1 := nl_lt a
    have n2 := (nl_ge h0).2
    rw [show nl a = 53 by omega] at n1 n2
    rw [Nat.pow_zero, Nat.mul_one, show p - ((0 : Nat) : Int) = p by omega]
    rw [ev_lm]; simp (disch := omega) only [aX16_quotient_1, tX16_quotient_195, n6_4503599627370496, ll_le, ↓reduceIte, jr_kl, jr_kr, ↓jr_let, jr_bs, and_true, true_and, and_false, false_and, or_true, true_or, or_false, false_or, not_true_eq_false, not_false_eq_true, b_let, b_lef, b_ltt, b_ltf, b_eqt, b_eqf, bz_let, bz_lef, bz_ltt, bz_ltf, bz_eqt, bz_eqf, Nat.reducePow, Nat.reduceMul, Nat.reduceAdd, Nat.reduceSub, Nat.reduceMod, Nat.reduceDiv, Int.reduceAdd, Int.reduceSub, Int.reduceMul, Int.reduceNeg, Int.reduceToNat, Int.toNat_natCast]
  | succ j ih =>
    intro a p hj h0 hp1 hp2
    have n1 := nl_lt a
    have w : 2 ^ nl a ≤ 2 ^ 52 := Nat.pow_le_pow_right (by decide) (by omega)
    have n3 := nl_mul 1 h0
    rw [Nat.pow_one] at n3
    have i := ih (a * 2) (p - 1) (by omega) (by omega) (by omega) (by omega)
    rw [Nat.mul_assoc, ← Nat.pow_succ', show p - 1 - (j : Int) = p - ((j + 1 : Nat) : Int) by omega] at i
    rw [← i]
    rw [ev_lm]; simp (disch := omega) only [aX16_quotient_1, tX16_quotient_195, n6_4503599627370496, ll_le, m3_1, zz_ng, zz_ad, zz_tn, n6_63, jl_63, ll_sl, ↓reduceIte, jr_kl, jr_kr, ↓jr_let, jr_bs, and_true, true_and, and_false, false_and, or_true, true_or, or_false, false_or, not_true_eq_false, not_false_eq_true, b_let, b_lef, b_ltt, b_ltf, b_eqt, b_eqf, bz_let, bz_lef, bz_ltt, bz_ltf, bz_eqt, bz_eqf, Nat.reducePow, Nat.reduceMul, Nat.reduceAdd, Nat.reduceSub, Nat.reduceMod, Nat.reduceDiv, Int.reduceAdd, Int.reduceSub, Int.reduceMul, Int.reduceNeg, Int.reduceToNat, Int.toNat_natCast]
    rfl
theorem jq_b (x1 x6 : Int32) (h : pm_H) (a : Int64) : ∀ (j b : Nat) (p : Int), j + nl b = 53 → b ≠ 0 → -9000 ≤ p → p + j ≤ 9000 → pm_lim sX16_quotient (.inr (.inr (.inl (x1, x6, a, Int64.ofNat b, Int32.ofInt p, h)))) = pm_lim sX16_quotient (.inr (.inr (.inr (x1, x6, a, Int64.ofNat (b * 2 ^ j), Int32.ofInt (p + j), 0, 0, h)))) := by
  intro j
  induction j with
  | zero =>
    intro b p hj h0 hp1 hp2
    have n1 := nl_lt b
    have n2 := (nl_ge h0).2
    rw [show nl b = 53 by omega] at n1 n2
    rw [Nat.pow_zero, Nat.mul_one, show p + ((0 : Nat) : Int) = p by omega]
    rw [ev_lm]; simp (disch := omega) only [aX16_quotient_2, tX16_quotient_216, n6_4503599627370496, ll_le, ↓reduceIte, jr_kl, jr_kr, ↓jr_let, jr_bs, and_true, true_and, and_false, false_and, or_true, true_or, or_false, false_or, not_true_eq_false, not_false_eq_true, b_let, b_lef, b_ltt, b_ltf, b_eqt, b_eqf, bz_let, bz_lef, bz_ltt, bz_ltf, bz_eqt, bz_eqf, Nat.reducePow, Nat.reduceMul, Nat.reduceAdd, Nat.reduceSub, Nat.reduceMod, Nat.reduceDiv, Int.reduceAdd, Int.reduceSub, Int.reduceMul, Int.reduceNeg, Int.reduceToNat, Int.toNat_natCast]
  | succ j ih =>
    intro b p hj h0 hp1 hp2
    have n1 := nl_lt b
    have w : 2 ^ nl b ≤ 2 ^ 52 := Nat.pow_le_pow_right (by decide) (by omega)
    have n3 := nl_mul 1 h0
    rw [Nat.pow_one] at n3
    have i := ih (b * 2) (p + 1) (by omega) (by omega) (by omega) (by omega)
    rw [Nat.mul_assoc, ← Nat.pow_succ', show p + 1 + (j : Int) = p + ((j + 1 : Nat) : Int) by omega] at i
    rw [← i]
    rw [ev_lm]; simp (disch := omega) only [aX16_quotient_2, tX16_quotient_216, n6_4503599627370496, ll_le, m3_1, zz_ng, zz_ad, zz_tn, n6_63, jl_63, ll_sl, ↓reduceIte, jr_kl, jr_kr, ↓jr_let, jr_bs, and_true, true_and, and_false, false_and, or_true, true_or, or_false, false_or, not_true_eq_false, not_false_eq_true, b_let, b_lef, b_ltt, b_ltf, b_eqt, b_eqf, bz_let, bz_lef, bz_ltt, bz_ltf, bz_eqt, bz_eqf, Nat.reducePow, Nat.reduceMul, Nat.reduceAdd, Nat.reduceSub, Nat.reduceMod, Nat.reduceDiv, Int.reduceAdd, Int.reduceSub, Int.reduceMul, Int.reduceNeg, Int.reduceToNat, Int.toNat_natCast]
theorem jq_w (n q B a : Nat) : 2 ^ (n + 1) * (q * (2 * B) + a) = 2 ^ n * (q * 2 * (2 * B) + a * 2) := by
  rw [Nat.pow_succ, Nat.mul_assoc, Nat.mul_add, Nat.mul_comm a 2, show 2 * (q * (2 * B)) = q * 2 * (2 * B) by rw [← Nat.mul_assoc, Nat.mul_comm 2 q]]
theorem jq_w2 (q B a : Nat) (h : B ≤ a) : q * 2 * (2 * B) + a * 2 = (q * 2 + 1) * (2 * B) + (a - B) * 2 := by
  rw [Nat.add_mul, Nat.one_mul]
  omega
theorem jq_m (x1 x6 : Int32) (h : pm_H) {B : Nat} (p : Int32) (hB : B < 9007199254740992) (h0 : 0 < B) : ∀ (n a q : Nat) (k : Int), k + n = 57 → 0 ≤ k → a < 2 * B → pm_lim sX16_quotient (.inr (.inr (.inr (x1, x6, Int64.ofNat a, Int64.ofNat B, p, Int64.ofNat q, Int32.ofInt k, h)))) = (fX16_rounded x1 x6 0 (Int64.ofNat (2 ^ n * (q * (2 * B) + a) / (2 * B))) (p - 56) (bI (decide (2 ^ n * (q * (2 * B) + a) % (2 * B) ≠ 0)))).bind fun v => some (v, h) := by
  intro n
  induction n with
  | zero =>
    intro a q k hk hk0 ha
    have d1 : 2 ^ 0 * (q * (2 * B) + a) / (2 * B) = q := by
      rw [Nat.pow_zero, Nat.one_mul, Nat.add_comm, Nat.add_mul_div_right _ _ (by omega), Nat.div_eq_of_lt ha, Nat.zero_add]
    have d2 : 2 ^ 0 * (q * (2 * B) + a) % (2 * B) = a := by
      rw [Nat.pow_zero, Nat.one_mul, Nat.add_comm, Nat.add_mul_mod_self_right, Nat.mod_eq_of_lt ha]
    rw [d1, d2]
    by_cases c : a = 0
    · rw [ev_lm]; simp (disch := omega) only [aX16_quotient_3, tX16_quotient_243, m3_57, zz_le, n6_0, jl_eq, c, ↓reduceIte, jr_kl, jr_kr, ↓jr_let, jr_bs, and_true, true_and, and_false, false_and, or_true, true_or, or_false, false_or, not_true_eq_false, not_false_eq_true, b_let, b_lef, b_ltt, b_ltf, b_eqt, b_eqf, bz_let, bz_lef, bz_ltt, bz_ltf, bz_eqt, bz_eqf, Nat.reducePow, Nat.reduceMul, Nat.reduceAdd, Nat.reduceSub, Nat.reduceMod, Nat.reduceDiv, Int.reduceAdd, Int.reduceSub, Int.reduceMul, Int.reduceNeg, Int.reduceToNat, Int.toNat_natCast]
      rw [show bI (decide ((0 : Nat) ≠ 0)) = 0 by decide]
      cases fX16_rounded x1 x6 (Int64.ofNat 0) (Int64.ofNat q) (p - 56) 0 <;> rfl
    · rw [ev_lm]; simp (disch := omega) only [aX16_quotient_3, tX16_quotient_243, m3_57, zz_le, n6_0, jl_eq, c, ↓reduceIte, jr_kl, jr_kr, ↓jr_let, jr_bs, and_true, true_and, and_false, false_and, or_true, true_or, or_false, false_or, not_true_eq_false, not_false_eq_true, b_let, b_lef, b_ltt, b_ltf, b_eqt, b_eqf, bz_let, bz_lef, bz_ltt, bz_ltf, bz_eqt, bz_eqf, Nat.reducePow, Nat.reduceMul, Nat.reduceAdd, Nat.reduceSub, Nat.reduceMod, Nat.reduceDiv, Int.reduceAdd, Int.reduceSub, Int.reduceMul, Int.reduceNeg, Int.reduceToNat, Int.toNat_natCast]
      rw [show bI (decide (a ≠ 0)) = 1 by rw [decide_eq_true c]; rfl]
      cases fX16_rounded x1 x6 (Int64.ofNat 0) (Int64.ofNat q) (p - 56) 1 <;> rfl
  | succ n ih =>
    intro a q k hk hk0 ha
    rw [jq_w]
    by_cases c : a < B
    · have i := ih (a * 2) (q * 2) (k + 1) (by omega) (by omega) (by omega)
      rw [← i]
      rw [ev_lm]; simp (disch := omega) only [aX16_quotient_3, tX16_quotient_243, m3_57, m3_1, zz_le, zz_ad, ll_lt, zz_tn, n6_63, jl_63, ll_sl, ↓reduceIte, jr_kl, jr_kr, ↓jr_let, jr_bs, and_true, true_and, and_false, false_and, or_true, true_or, or_false, false_or, not_true_eq_false, not_false_eq_true, b_let, b_lef, b_ltt, b_ltf, b_eqt, b_eqf, bz_let, bz_lef, bz_ltt, bz_ltf, bz_eqt, bz_eqf, Nat.reducePow, Nat.reduceMul, Nat.reduceAdd, Nat.reduceSub, Nat.reduceMod, Nat.reduceDiv, Int.reduceAdd, Int.reduceSub, Int.reduceMul, Int.reduceNeg, Int.reduceToNat, Int.toNat_natCast]
    · have i := ih ((a - B) * 2) (q * 2 + 1) (k + 1) (by omega) (by omega) (by omega)
      rw [jq_w2 q B a (by omega), ← i]
      rw [ev_lm]; simp (disch := omega) only [aX16_quotient_3, tX16_quotient_243, m3_57, m3_1, zz_le, zz_ad, ll_lt, ll_sb, ll_ad, n6_1, zz_tn, n6_63, jl_63, ll_sl, ↓reduceIte, jr_kl, jr_kr, ↓jr_let, jr_bs, and_true, true_and, and_false, false_and, or_true, true_or, or_false, false_or, not_true_eq_false, not_false_eq_true, b_let, b_lef, b_ltt, b_ltf, b_eqt, b_eqf, bz_let, bz_lef, bz_ltt, bz_ltf, bz_eqt, bz_eqf, Nat.reducePow, Nat.reduceMul, Nat.reduceAdd, Nat.reduceSub, Nat.reduceMod, Nat.reduceDiv, Int.reduceAdd, Int.reduceSub, Int.reduceMul, Int.reduceNeg, Int.reduceToNat, Int.toNat_natCast]
theorem jq_10 (z : Nat) : Int64.ofNat z <<< ((10 : Int32).toInt64 &&& 63) = Int64.ofNat (z * 1024) := by
  have e := ll_sl z (k := 10) (by decide)
  rw [show (2 : Nat) ^ 10 = 1024 from rfl] at e
  rw [show ((10 : Int32).toInt64 &&& 63) = Int64.ofNat 10 by decide]
  exact e
theorem jq_c (x0 : Int32) (X Y : Int64) (x5 : Int32) {B : Nat} (hB : B < 9007199254740992) (h0 : 0 < B) : ∀ (n r Q : Nat) (i : Int), i + n = 6 → 0 ≤ i → r < B → 1024 ^ n * (Q * B + r) / B < 9223372036854775808 → pm_lim sX8_divide (.inr (.inr (x0, X, Y, x5, Int64.ofNat r, Int64.ofNat B, Int64.ofNat Q, Int32.ofInt i))) = some (fX8_round x0 x5 (Int64.ofNat (od (1024 ^ n * (Q * B + r) / B) (decide (1024 ^ n * (Q * B + r) % B ≠ 0)))) ((fX8_scale x0 X - fX8_scale x0 Y) - 60)) := by
  intro n
  induction n with
  | zero =>
    intro r Q i hi hi0 hr hW
    have d1 : 1024 ^ 0 * (Q * B + r) / B = Q := by
      rw [Nat.pow_zero, Nat.one_mul, Nat.add_comm, Nat.add_mul_div_right _ _ h0, Nat.div_eq_of_lt hr, Nat.zero_add]
    have d2 : 1024 ^ 0 * (Q * B + r) % B = r := by
      rw [Nat.pow_zero, Nat.one_mul, Nat.add_comm, Nat.add_mul_mod_self_right, Nat.mod_eq_of_lt hr]
    rw [d1] at hW
    rw [d1, d2]
    unfold od
    by_cases c : r = 0
    · rw [if_neg (fun w => by simp [c] at w)]
      rw [ev_lm]; simp (disch := omega) only [aX8_divide_2, tX8_divide_154, m3_6, zz_le, n6_0, jl_eq, c, ↓reduceIte, jr_kl, jr_kr, ↓jr_let, jr_bs, and_true, true_and, and_false, false_and, or_true, true_or, or_false, false_or, not_true_eq_false, not_false_eq_true, b_let, b_lef, b_ltt, b_ltf, b_eqt, b_eqf, bz_let, bz_lef, bz_ltt, bz_ltf, bz_eqt, bz_eqf, Nat.reducePow, Nat.reduceMul, Nat.reduceAdd, Nat.reduceSub, Nat.reduceMod, Nat.reduceDiv, Int.reduceAdd, Int.reduceSub, Int.reduceMul, Int.reduceNeg, Int.reduceToNat, Int.toNat_natCast]
    · by_cases d : Q % 2 = 0
      · rw [if_pos ⟨by simp [c], d⟩]
        rw [ev_lm]; simp (disch := omega) only [aX8_divide_2, tX8_divide_154, m3_6, zz_le, n6_0, n6_1, jl_eq, c, jl_o1, ↓reduceIte, jr_kl, jr_kr, ↓jr_let, jr_bs, and_true, true_and, and_false, false_and, or_true, true_or, or_false, false_or, not_true_eq_false, not_false_eq_true, b_let, b_lef, b_ltt, b_ltf, b_eqt, b_eqf, bz_let, bz_lef, bz_ltt, bz_ltf, bz_eqt, bz_eqf, Nat.reducePow, Nat.reduceMul, Nat.reduceAdd, Nat.reduceSub, Nat.reduceMod, Nat.reduceDiv, Int.reduceAdd, Int.reduceSub, Int.reduceMul, Int.reduceNeg, Int.reduceToNat, Int.toNat_natCast]
      · rw [if_neg (fun w => d w.2)]
        rw [ev_lm]; simp (disch := omega) only [aX8_divide_2, tX8_divide_154, m3_6, zz_le, n6_0, n6_1, jl_eq, c, jl_o2, ↓reduceIte, jr_kl, jr_kr, ↓jr_let, jr_bs, and_true, true_and, and_false, false_and, or_true, true_or, or_false, false_or, not_true_eq_false, not_false_eq_true, b_let, b_lef, b_ltt, b_ltf, b_eqt, b_eqf, bz_let, bz_lef, bz_ltt, bz_ltf, bz_eqt, bz_eqf, Nat.reducePow, Nat.reduceMul, Nat.reduceAdd, Nat.reduceSub, Nat.reduceMod, Nat.reduceDiv, Int.reduceAdd, Int.reduceSub, Int.reduceMul, Int.reduceNeg, Int.reduceToNat, Int.toNat_natCast]
  | succ n ih =>
    intro r Q i hi hi0 hr hW
    have r1 : r * 1024 < 9223372036854775808 := Nat.lt_of_lt_of_le (Nat.mul_lt_mul_of_pos_right (Nat.lt_trans hr hB) (by decide)) (Nat.le_of_eq (by decide))
    have r2 : r * 1024 / B * B ≤ r * 1024 := Nat.div_mul_le_self _ _
    have dm : r * 1024 / B * B + r * 1024 % B = r * 1024 := by rw [Nat.mul_comm]; exact Nat.div_add_mod _ _
    have mr : r * 1024 % B < B := Nat.mod_lt _ h0
    have dl : r * 1024 / B < 1024 := by rw [Nat.div_lt_iff_lt_mul h0]; omega
    have e1 : (Q * 1024 + r * 1024 / B) * B + r * 1024 % B = 1024 * (Q * B + r) := by
      rw [Nat.add_mul, Nat.mul_right_comm]
      omega
    have e2 : 1024 ^ (n + 1) * (Q * B + r) = 1024 ^ n * ((Q * 1024 + r * 1024 / B) * B + r * 1024 % B) := by
      rw [e1, Nat.pow_succ, Nat.mul_assoc]
    rw [e2] at hW ⊢
    have e3 : Q * 1024 + r * 1024 / B < 9223372036854775808 := by
      refine Nat.lt_of_le_of_lt ?_ hW
      rw [Nat.le_div_iff_mul_le h0]
      refine Nat.le_trans (Nat.le_add_right _ (r * 1024 % B)) ?_
      exact Nat.le_mul_of_pos_left _ (Nat.pow_pos (by decide))
    have e4 : r * 1024 - r * 1024 / B * B = r * 1024 % B := by omega
    have o := jl_o (k := 10) (a := r * 1024 / B) (c := Q) dl (Nat.lt_trans e3 (by decide))
    rw [show (2 : Nat) ^ 10 = 1024 from rfl] at o
    rw [← ih (r * 1024 % B) (Q * 1024 + r * 1024 / B) (i + 1) (by omega) (by omega) mr hW]
    clear hW e2 e1 ih
    have b0 : ¬ Int64.ofNat B = 0 := by rw [n6_0, jl_eq (by omega) (by decide)]; omega
    have s10 : ∀ z : Nat, Int64.ofNat z <<< ((10 : Int32).toInt64 &&& 63) = Int64.ofNat (z * 1024) := fun z => jq_10 z
    have dv := ll_dv (a := r * 1024) (b := B) r1 (Nat.lt_trans hB (by decide))
    have sb := ll_sb (m := r * 1024) (n := r * 1024 / B * B) r2
    have l6 : ¬ (6 : Int32) ≤ Int32.ofInt i := fun z => absurd ((zz_le (a := 6) (b := i) (by decide) (by decide) (by omega) (by omega)).mp z) (by omega)
    rw [ev_lm, aX8_divide_2]
    unfold tX8_divide_154
    simp only [l6, b0, if_false, if_true, not_false_eq_true, jr_let, jr_kl, s10, dv, o, ll_ml, sb, e4]
    rw [m3_1, zz_ad]
