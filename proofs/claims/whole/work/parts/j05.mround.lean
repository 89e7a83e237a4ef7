/-! NUMBERS: the reference rounds -/
def bN (g : Bool) : Nat := if g = true then 1 else 0
theorem jw_sh (V : Nat) : (((Int64.ofNat V).toUInt64 >>> ((1 : Int32).toInt64.toUInt64 &&& Int64.toUInt64 63)).toInt64 ||| Int64.ofNat (V / 18446744073709551616) <<< ((63 : Int32).toInt64 &&& 63)) = Int64.ofNat (V / 2) := by
  have e : V / 18446744073709551616 * 2 ^ 63 % 18446744073709551616 = (V / 18446744073709551616 % 2) * 2 ^ 63 := by omega
  rw [show (1 : Int32).toInt64 = Int64.ofNat 1 from rfl, show (63 : Int32).toInt64 = Int64.ofNat 63 from rfl, show (63 : Int64) = Int64.ofNat 63 from rfl, jl_u63 (by decide), jl_63 (by decide), ll_sl _ (by decide), jl_wrap V, jl_us (Nat.mod_lt _ (by decide)) (by decide), Nat.pow_one, jl_wrap (V / 18446744073709551616 * 2 ^ 63), e, jl_oc, jl_o (k := 63) (by omega) (by omega), jl_wrap (V / 2)]
  congr 1
  omega
theorem jw_hi {V : Nat} (h : V < 340282366920938463463374607431768211456) : ((Int64.ofNat (V / 18446744073709551616)).toUInt64 >>> ((1 : Int32).toInt64.toUInt64 &&& Int64.toUInt64 63)).toInt64 = Int64.ofNat (V / 2 / 18446744073709551616) := by
  rw [show (1 : Int32).toInt64 = Int64.ofNat 1 from rfl, show (63 : Int64) = Int64.ofNat 63 from rfl, jl_u63 (by decide), jl_us (by omega) (by decide), Nat.pow_one]
  congr 1
  omega
theorem jw_0 (V : Nat) : (Int64.ofNat V = 0) = (V % 18446744073709551616 = 0) := by
  rw [jl_wrap V, show (0 : Int64) = Int64.ofNat 0 from rfl, jl_eq (Nat.mod_lt _ (by decide)) (by decide)]
theorem jw_1 (V : Nat) : (Int64.ofNat V &&& Int64.ofNat 1 = Int64.ofNat 1) = (V % 2 = 1) := by
  rw [ll_m1, jl_eq (by omega) (by decide)]
theorem bI_0 (g : Bool) : (bI g = 0) = (g = false) := by cases g <;> decide
theorem rw_step (V n : Nat) (half rest : Bool) : rd_m (4 * V + 2 * bN half + bN rest) (n + 1 + 2) false = rd_m (4 * (V / 2) + 2 * bN (decide (V % 2 = 1)) + bN (rest || half)) (n + 2) false := by
  rw [show n + 1 + 2 = 1 + (n + 2) by omega, rd_mk _ _ _ _ (by omega), Bool.false_or, rd_m_od _ _ _ (by omega), Nat.pow_one]
  congr 1
  unfold od
  by_cases c : V % 2 = 1
  · cases half <;> cases rest <;> simp only [bN, c] <;> simp <;> (try split) <;> omega
  · cases half <;> cases rest <;> simp only [bN, c] <;> simp <;> (try split) <;> omega
theorem rw_zero (n : Nat) (rest : Bool) : rd_m (bN rest) (n + 2) false = 0 := by
  have w : 4 * 1 ≤ 2 ^ (n + 2) := by
    rw [Nat.pow_add, Nat.mul_comm]
    exact Nat.mul_le_mul_right _ (Nat.two_pow_pos n)
  have b : bN rest ≤ 1 := by cases rest <;> decide
  unfold rd_m
  rw [Nat.mod_eq_of_lt (by omega), Nat.div_eq_of_lt (by omega), if_neg]
  rintro (z | ⟨z, -⟩) <;> omega
theorem rw_end (V : Nat) (half rest : Bool) : rd_m (4 * V + 2 * bN half + bN rest) (0 + 2) false = if half = true ∧ (rest = true ∨ V % 2 = 1) then V + 1 else V := by
  unfold rd_m
  cases half <;> cases rest <;> simp only [bN] <;> simp <;> (try split) <;> (try split) <;> omega
theorem mr_loop (x0 x1 x8 x9 : Int32) {q : Int} (hq1 : -100000 ≤ q) (hq2 : q ≤ 100000) : ∀ (n V : Nat) (half rest : Bool) (k : Int), k + n = q → -100000 ≤ k → V < 340282366920938463463374607431768211456 → pm_lim sX16_rounded (.inr (.inr (.inr (.inl (x0, x1, x8, x9, Int32.ofInt q, Int64.ofNat (V / 18446744073709551616), Int64.ofNat V, bI half, bI rest, Int32.ofInt k))))) = pm_lim sX16_rounded (.inr (.inr (.inr (.inr (.inr (.inr (.inl (x0, x1, x8, x9, Int32.ofInt q, Int64.ofNat (rd_m (4 * V + 2 * bN half + bN rest) (n + 2) false))))))))) := by
  intro n
  induction n with
  | zero =>
    intro V half rest k hk hk1 hV
    rw [rw_end]
    rw [ev_lm]; simp (disch := omega) only [aX16_rounded_3, tX16_rounded_96, zz_le, ↓reduceIte, jr_kl, jr_kr, ↓jr_let, jr_bs, and_true, true_and, and_false, false_and, or_true, true_or, or_false, false_or, not_true_eq_false, not_false_eq_true, b_let, b_lef, b_ltt, b_ltf, b_eqt, b_eqf, bz_let, bz_lef, bz_ltt, bz_ltf, bz_eqt, bz_eqf, Nat.reducePow, Nat.reduceMul, Nat.reduceAdd, Nat.reduceSub, Nat.reduceMod, Nat.reduceDiv, Int.reduceAdd, Int.reduceSub, Int.reduceMul, Int.reduceNeg, Int.reduceToNat, Int.toNat_natCast]
    by_cases c : V % 2 = 1
    · cases half <;> cases rest <;> (rw [ev_lm]; simp (disch := omega) only [aX16_rounded_4, tX16_rounded_179, bI_0, jw_1, c, ll_ad, n6_1, ↓reduceIte, jr_kl, jr_kr, ↓jr_let, jr_bs, and_true, true_and, and_false, false_and, or_true, true_or, or_false, false_or, not_true_eq_false, not_false_eq_true, b_let, b_lef, b_ltt, b_ltf, b_eqt, b_eqf, bz_let, bz_lef, bz_ltt, bz_ltf, bz_eqt, bz_eqf, Nat.reducePow, Nat.reduceMul, Nat.reduceAdd, Nat.reduceSub, Nat.reduceMod, Nat.reduceDiv, Int.reduceAdd, Int.reduceSub, Int.reduceMul, Int.reduceNeg, Int.reduceToNat, Int.toNat_natCast, Bool.false_eq_true, eq_self, reduceCtorEq])
    · cases half <;> cases rest <;> (rw [ev_lm]; simp (disch := omega) only [aX16_rounded_4, tX16_rounded_179, bI_0, jw_1, c, ll_ad, n6_1, ↓reduceIte, jr_kl, jr_kr, ↓jr_let, jr_bs, and_true, true_and, and_false, false_and, or_true, true_or, or_false, false_or, not_true_eq_false, not_false_eq_true, b_let, b_lef, b_ltt, b_ltf, b_eqt, b_eqf, bz_let, bz_lef, bz_ltt, bz_ltf, bz_eqt, bz_eqf, Nat.reducePow, Nat.reduceMul, Nat.reduceAdd, Nat.reduceSub, Nat.reduceMod, Nat.reduceDiv, Int.reduceAdd, Int.reduceSub, Int.reduceMul, Int.reduceNeg, Int.reduceToNat, Int.toNat_natCast, Bool.false_eq_true, eq_self, reduceCtorEq])
  | succ n ih =>
    intro V half rest k hk hk1 hV
    have i := ih (V / 2) (decide (V % 2 = 1)) (rest || half) (k + 1) (by omega) (by omega) (by omega)
    by_cases z : V = 0 ∧ half = false
    · obtain ⟨z1, z2⟩ := z
      subst z1 z2
      rw [show 4 * 0 + 2 * bN false + bN rest = bN rest by simp [bN], rw_zero]
      rw [ev_lm]; simp (disch := omega) only [aX16_rounded_3, tX16_rounded_96, zz_le, jw_0, bI_0, ↓reduceIte, jr_kl, jr_kr, ↓jr_let, jr_bs, and_true, true_and, and_false, false_and, or_true, true_or, or_false, false_or, not_true_eq_false, not_false_eq_true, b_let, b_lef, b_ltt, b_ltf, b_eqt, b_eqf, bz_let, bz_lef, bz_ltt, bz_ltf, bz_eqt, bz_eqf, Nat.reducePow, Nat.reduceMul, Nat.reduceAdd, Nat.reduceSub, Nat.reduceMod, Nat.reduceDiv, Int.reduceAdd, Int.reduceSub, Int.reduceMul, Int.reduceNeg, Int.reduceToNat, Int.toNat_natCast]
      rw [ev_lm]; simp (disch := omega) only [aX16_rounded_4, tX16_rounded_179, bI_0, ↓reduceIte, jr_kl, jr_kr, ↓jr_let, jr_bs, and_true, true_and, and_false, false_and, or_true, true_or, or_false, false_or, not_true_eq_false, not_false_eq_true, b_let, b_lef, b_ltt, b_ltf, b_eqt, b_eqf, bz_let, bz_lef, bz_ltt, bz_ltf, bz_eqt, bz_eqf, Nat.reducePow, Nat.reduceMul, Nat.reduceAdd, Nat.reduceSub, Nat.reduceMod, Nat.reduceDiv, Int.reduceAdd, Int.reduceSub, Int.reduceMul, Int.reduceNeg, Int.reduceToNat, Int.toNat_natCast]
    · have s1 : pm_lim sX16_rounded (.inr (.inr (.inr (.inl (x0, x1, x8, x9, Int32.ofInt q, Int64.ofNat (V / 18446744073709551616), Int64.ofNat V, bI half, bI rest, Int32.ofInt k))))) = pm_lim sX16_rounded (.inr (.inr (.inr (.inr (.inr (.inl (x0, x1, x8, x9, Int32.ofInt q, Int64.ofNat (V / 18446744073709551616), Int64.ofNat V, bI half, bI rest, Int32.ofInt k))))))) := by
        rw [ev_lm]; simp (disch := omega) only [aX16_rounded_3, tX16_rounded_96, zz_le, jw_0, bI_0, ↓reduceIte, jr_kl, jr_kr, ↓jr_let, jr_bs, and_true, true_and, and_false, false_and, or_true, true_or, or_false, false_or, not_true_eq_false, not_false_eq_true, b_let, b_lef, b_ltt, b_ltf, b_eqt, b_eqf, bz_let, bz_lef, bz_ltt, bz_ltf, bz_eqt, bz_eqf, Nat.reducePow, Nat.reduceMul, Nat.reduceAdd, Nat.reduceSub, Nat.reduceMod, Nat.reduceDiv, Int.reduceAdd, Int.reduceSub, Int.reduceMul, Int.reduceNeg, Int.reduceToNat, Int.toNat_natCast]
        by_cases z1 : V / 18446744073709551616 % 18446744073709551616 = 0
        · by_cases z2 : V % 18446744073709551616 = 0
          · have z3 : half = true := by
              cases half with
              | true => rfl
              | false => exact absurd ⟨by omega, rfl⟩ z
            subst z3
            simp only [z1, z2, ↓reduceIte, jr_kl, jr_kr, ↓jr_let, jr_bs, and_true, true_and, and_false, false_and, or_true, true_or, or_false, false_or, not_true_eq_false, not_false_eq_true, b_let, b_lef, b_ltt, b_ltf, b_eqt, b_eqf, bz_let, bz_lef, bz_ltt, bz_ltf, bz_eqt, bz_eqf, Nat.reducePow, Nat.reduceMul, Nat.reduceAdd, Nat.reduceSub, Nat.reduceMod, Nat.reduceDiv, Int.reduceAdd, Int.reduceSub, Int.reduceMul, Int.reduceNeg, Int.reduceToNat, Int.toNat_natCast, reduceCtorEq]
          · simp only [z1, z2, ↓reduceIte, jr_kl, jr_kr, ↓jr_let, jr_bs, and_true, true_and, and_false, false_and, or_true, true_or, or_false, false_or, not_true_eq_false, not_false_eq_true, b_let, b_lef, b_ltt, b_ltf, b_eqt, b_eqf, bz_let, bz_lef, bz_ltt, bz_ltf, bz_eqt, bz_eqf, Nat.reducePow, Nat.reduceMul, Nat.reduceAdd, Nat.reduceSub, Nat.reduceMod, Nat.reduceDiv, Int.reduceAdd, Int.reduceSub, Int.reduceMul, Int.reduceNeg, Int.reduceToNat, Int.toNat_natCast]
        · simp only [z1, ↓reduceIte, jr_kl, jr_kr, ↓jr_let, jr_bs, and_true, true_and, and_false, false_and, or_true, true_or, or_false, false_or, not_true_eq_false, not_false_eq_true, b_let, b_lef, b_ltt, b_ltf, b_eqt, b_eqf, bz_let, bz_lef, bz_ltt, bz_ltf, bz_eqt, bz_eqf, Nat.reducePow, Nat.reduceMul, Nat.reduceAdd, Nat.reduceSub, Nat.reduceMod, Nat.reduceDiv, Int.reduceAdd, Int.reduceSub, Int.reduceMul, Int.reduceNeg, Int.reduceToNat, Int.toNat_natCast]
      have s2 : pm_lim sX16_rounded (.inr (.inr (.inr (.inr (.inr (.inl (x0, x1, x8, x9, Int32.ofInt q, Int64.ofNat (V / 18446744073709551616), Int64.ofNat V, bI half, bI rest, Int32.ofInt k))))))) = pm_lim sX16_rounded (.inr (.inr (.inr (.inr (.inr (.inr (.inr (.inr (.inl (x0, x1, x8, x9, Int32.ofInt q, Int64.ofNat (V / 18446744073709551616), Int64.ofNat V, Int32.ofInt k, bI (rest || half))))))))))) := by
        cases half <;> cases rest <;> (rw [ev_lm]; simp (disch := omega) only [aX16_rounded_5, tX16_rounded_122, bI_0, ↓reduceIte, jr_kl, jr_kr, ↓jr_let, jr_bs, and_true, true_and, and_false, false_and, or_true, true_or, or_false, false_or, not_true_eq_false, not_false_eq_true, b_let, b_lef, b_ltt, b_ltf, b_eqt, b_eqf, bz_let, bz_lef, bz_ltt, bz_ltf, bz_eqt, bz_eqf, Nat.reducePow, Nat.reduceMul, Nat.reduceAdd, Nat.reduceSub, Nat.reduceMod, Nat.reduceDiv, Int.reduceAdd, Int.reduceSub, Int.reduceMul, Int.reduceNeg, Int.reduceToNat, Int.toNat_natCast, reduceCtorEq]) <;> (try (rw [ev_lm]; simp (disch := omega) only [aX16_rounded_7, tX16_rounded_132, ↓reduceIte, jr_kl, jr_kr, ↓jr_let, jr_bs, and_true, true_and, and_false, false_and, or_true, true_or, or_false, false_or, not_true_eq_false, not_false_eq_true, b_let, b_lef, b_ltt, b_ltf, b_eqt, b_eqf, bz_let, bz_lef, bz_ltt, bz_ltf, bz_eqt, bz_eqf, Nat.reducePow, Nat.reduceMul, Nat.reduceAdd, Nat.reduceSub, Nat.reduceMod, Nat.reduceDiv, Int.reduceAdd, Int.reduceSub, Int.reduceMul, Int.reduceNeg, Int.reduceToNat, Int.toNat_natCast])) <;> rfl
      rw [s1, s2, rw_step, ← i]
      by_cases c : V % 2 = 1
      · rw [ev_lm]; simp (disch := omega) only [aX16_rounded_8, tX16_rounded_137, n6_1, jw_1, jw_sh, jw_hi hV, c, zz_ad, ↓reduceIte, jr_kl, jr_kr, ↓jr_let, jr_bs, and_true, true_and, and_false, false_and, or_true, true_or, or_false, false_or, not_true_eq_false, not_false_eq_true, b_let, b_lef, b_ltt, b_ltf, b_eqt, b_eqf, bz_let, bz_lef, bz_ltt, bz_ltf, bz_eqt, bz_eqf, Nat.reducePow, Nat.reduceMul, Nat.reduceAdd, Nat.reduceSub, Nat.reduceMod, Nat.reduceDiv, Int.reduceAdd, Int.reduceSub, Int.reduceMul, Int.reduceNeg, Int.reduceToNat, Int.toNat_natCast]
        rw [show (1 : Int32) = Int32.ofInt 1 from rfl, zz_ad]
        rfl
      · rw [ev_lm]; simp (disch := omega) only [aX16_rounded_8, tX16_rounded_137, n6_1, jw_1, jw_sh, jw_hi hV, c, zz_ad, ↓reduceIte, jr_kl, jr_kr, ↓jr_let, jr_bs, and_true, true_and, and_false, false_and, or_true, true_or, or_false, false_or, not_true_eq_false, not_false_eq_true, b_let, b_lef, b_ltt, b_ltf, b_eqt, b_eqf, bz_let, bz_lef, bz_ltt, bz_ltf, bz_eqt, bz_eqf, Nat.reducePow, Nat.reduceMul, Nat.reduceAdd, Nat.reduceSub, Nat.reduceMod, Nat.reduceDiv, Int.reduceAdd, Int.reduceSub, Int.reduceMul, Int.reduceNeg, Int.reduceToNat, Int.toNat_natCast]
        rw [show (1 : Int32) = Int32.ofInt 1 from rfl, zz_ad]
        rfl
