/-! NUMBERS: quotients: class and reference give the same -/
theorem fl_dv {w p : Nat} {em : Int} {top : Nat} {g : Bool} {A B : Nat} {E : Int} (hp : 1 ≤ p) (hp2 : p ≤ 53) (a1 : 4503599627370496 ≤ A) (b1 : B < 9007199254740992) (b0 : 0 < B) : fl w p em top g (od (1152921504606846976 * A / B) (decide (1152921504606846976 * A % B ≠ 0))) E false = fl w p em top g (72057594037927936 * A / B) (E + 4) (decide (72057594037927936 * A % B ≠ 0)) := by
  have q1 : 576460752303423488 ≤ 1152921504606846976 * A / B := by
    rw [Nat.le_div_iff_mul_le b0]
    omega
  have n1 : 59 < nl (1152921504606846976 * A / B) := nl_gt (L := 59) q1
  have e1 : 1152921504606846976 * A / B / 2 ^ 4 = 72057594037927936 * A / B := by
    rw [Nat.div_div_eq_div_mul, show 1152921504606846976 * A = 72057594037927936 * A * 2 ^ 4 by omega, Nat.mul_div_mul_right _ _ (by decide)]
  have e2 : 1152921504606846976 * A % (B * 2 ^ 4) = 1152921504606846976 * A % B + B * (1152921504606846976 * A / B % 2 ^ 4) := Nat.mod_mul
  have e3 : 1152921504606846976 * A % (B * 2 ^ 4) = 72057594037927936 * A % B * 2 ^ 4 := by
    rw [show 1152921504606846976 * A = 72057594037927936 * A * 2 ^ 4 by omega, Nat.mul_mod_mul_right]
  have e4 : (decide (1152921504606846976 * A % B ≠ 0) || decide (1152921504606846976 * A / B % 2 ^ 4 ≠ 0)) = decide (72057594037927936 * A % B ≠ 0) := by
    by_cases c : 72057594037927936 * A % B = 0
    · rw [c] at e3
      have z1 : 1152921504606846976 * A % B = 0 := by omega
      have z2 : 1152921504606846976 * A / B % 2 ^ 4 = 0 := by
        have : B * (1152921504606846976 * A / B % 2 ^ 4) = 0 := by omega
        rcases Nat.mul_eq_zero.mp this with z | z
        · omega
        · exact z
      rw [c, z1, z2]
      rfl
    · rw [decide_eq_true c]
      by_cases d : 1152921504606846976 * A % B = 0
      · by_cases f : 1152921504606846976 * A / B % 2 ^ 4 = 0
        · rw [d, f] at e2
          omega
        · simp [f]
      · simp [d]
  have Q0 : 1152921504606846976 * A / B ≠ 0 := by omega
  have q0 : 72057594037927936 * A / B ≠ 0 := by omega
  have o0 : od (1152921504606846976 * A / B) (decide (1152921504606846976 * A % B ≠ 0)) ≠ 0 := by
    unfold od
    split <;> omega
  have a := rd_q_c p em (1152921504606846976 * A / B) E
  unfold fl
  rw [if_neg o0, if_neg q0, ← rd_od _ hp (by omega), rd_odd (k := 4) (by omega), e4, e1]
  rfl
def sA2 (X : Nat) : Nat := wh2 X * 2 ^ (53 - nl (wh2 X))
def sE2 (X : Nat) : Int := pw2 X - (53 - nl (wh2 X) : Nat)
theorem sE2_b (X : Nat) : -1200 ≤ sE2 X ∧ sE2 X ≤ 1000 := by
  have p := pw2_b X
  have l : nl (wh2 X) ≤ 53 := nl_le (by have := wh2_lt X; omega)
  unfold sE2
  omega
def dv2 (X Y : Nat) : Nat := if so2 X = 3 ∨ so2 Y = 3 ∨ (so2 X = so2 Y ∧ so2 X ≠ 0) then 2143289344 else if so2 X = 2 ∨ so2 Y = 1 then sg2 (ng2 X ^^ ng2 Y) + 2139095040 else if so2 X = 1 ∨ so2 Y = 2 then sg2 (ng2 X ^^ ng2 Y) else f2 (ng2 X ^^ ng2 Y) (72057594037927936 * sA2 X / sA2 Y) (sE2 X - sE2 Y - 56) (decide (72057594037927936 * sA2 X % sA2 Y ≠ 0))
theorem mq2_f {H : pm_H} {X Y : Nat} (x0 : X % 2147483648 ≠ 0) (y0 : Y % 2147483648 ≠ 0) (g : Bool) : pm_lim sX16_quotient (.inr (.inl (2, bI g, Int64.ofNat (wh2 X), Int64.ofNat (wh2 Y), Int32.ofInt (pw2 X - pw2 Y), H))) = some (Int64.ofNat (f2 g (72057594037927936 * sA2 X / sA2 Y) (sE2 X - sE2 Y - 56) (decide (72057594037927936 * sA2 X % sA2 Y ≠ 0))), H) := by
  have wX := wh2_lt X
  have wY := wh2_lt Y
  have pX := pw2_b X
  have pY := pw2_b Y
  have l1 : nl (wh2 X) ≤ 53 := nl_le (by omega)
  have l2 : nl (wh2 Y) ≤ 53 := nl_le (by omega)
  have sx := sn2 x0
  have sy := sn2 y0
  have eA : wh2 X * 2 ^ (53 - nl (wh2 X)) = sA2 X := rfl
  have eB : wh2 Y * 2 ^ (53 - nl (wh2 Y)) = sA2 Y := rfl
  have eE : pw2 X - pw2 Y - ((53 - nl (wh2 X) : Nat) : Int) + ((53 - nl (wh2 Y) : Nat) : Int) = sE2 X - sE2 Y := by unfold sE2; omega
  rw [eA] at sx
  rw [eB] at sy
  have bE := sE2_b X
  have bF := sE2_b Y
  rw [jq_a 2 (bI g) H _ (53 - nl (wh2 X)) (wh2 X) _ (by omega) (wh2_0 x0) (by omega) (by omega), jq_b 2 (bI g) H _ (53 - nl (wh2 Y)) (wh2 Y) _ (by omega) (wh2_0 y0) (by omega) (by omega), eA, eB, eE]
  have M := jq_m 2 (bI g) H (B := sA2 Y) (Int32.ofInt (sE2 X - sE2 Y)) sy.1 (by omega) 57 (sA2 X) 0 0 (by omega) (by omega) (by omega)
  have d1 : 2 ^ 57 * (0 * (2 * sA2 Y) + sA2 X) = 2 * (72057594037927936 * sA2 X) := by rw [Nat.zero_mul, Nat.zero_add]; omega
  rw [d1, Nat.mul_div_mul_left _ _ (by decide), Nat.mul_mod_mul_left] at M
  have d2 : decide (2 * (72057594037927936 * sA2 X % sA2 Y) ≠ 0) = decide (72057594037927936 * sA2 X % sA2 Y ≠ 0) := by
    by_cases c : 72057594037927936 * sA2 X % sA2 Y = 0
    · rw [c]
    · rw [decide_eq_true c, decide_eq_true (by omega)]
  rw [d2, m3_56, zz_sb] at M
  have q1 : 72057594037927936 * sA2 X / sA2 Y < 18446744073709551616 := by
    rw [Nat.div_lt_iff_lt_mul (by omega)]
    omega
  have q0 : 72057594037927936 * sA2 X / sA2 Y ≠ 0 := by
    have : 1 ≤ 72057594037927936 * sA2 X / sA2 Y := by rw [Nat.le_div_iff_mul_le (by omega)]; omega
    omega
  have R := mr2 g (decide (72057594037927936 * sA2 X % sA2 Y ≠ 0)) (hi := 0) (E := sE2 X - sE2 Y - 56) (by decide) q1 (by rw [Nat.zero_mul, Nat.zero_add]) q0 (by omega) (by omega)
  rw [show Int64.ofNat 0 = 0 from rfl] at R
  rw [R, jr_bs] at M
  rw [show (0 : Int32) = Int32.ofInt 0 from rfl, show (0 : Int64) = Int64.ofNat 0 from rfl]
  exact M
theorem mq2_b {H : pm_H} (O : mO H) {X Y : Nat} (hm : m2 H (ng2 X) (so2 X) (wh2 X) (pw2 X) (ng2 Y) (so2 Y) (wh2 Y) (pw2 Y)) {g : Bool} (hg : (ng2 X ^^ ng2 Y) = g) : pm_lim sX16_quotient (.inl (592, 2, bI g, H)) = some (Int64.ofNat (dv2 X Y), H) := by
  obtain ⟨k, r1, r2, k1, k2⟩ := O
  obtain ⟨i0, i1, i2, i3, j0, j1, j2, j3⟩ := hm
  have cX := so2_c X
  have cY := so2_c Y
  have s3 : ∀ s : Nat, s ≤ 3 → (Int32.ofInt (s : Int) = (3 : Int32)) = (s = 3) := fun s hs => so2_i s 3 hs (by decide)
  have s2 : ∀ s : Nat, s ≤ 3 → (Int32.ofInt (s : Int) = (2 : Int32)) = (s = 2) := fun s hs => so2_i s 2 hs (by decide)
  have s1 : ∀ s : Nat, s ≤ 3 → (Int32.ofInt (s : Int) = (1 : Int32)) = (s = 1) := fun s hs => so2_i s 1 hs (by decide)
  have s0 : (Int32.ofInt (so2 X : Int) ≤ (0 : Int32)) = (so2 X = 0) := by
    rw [m3_0, zz_le (by omega) (by omega) (by omega) (by omega)]
    exact propext ⟨fun z => by omega, fun z => by omega⟩
  have s4 : (Int32.ofInt (so2 X) = Int32.ofInt (so2 Y)) = (so2 X = so2 Y) := so2_i _ _ (by omega) (by omega)
  have nn : fX16_noneOf 2 = Int64.ofNat 2143289344 := by decide
  have ni : fX16_withSign 2 (bI g) (fX16_infinite 2) = Int64.ofNat (sg2 g + 2139095040) := by
    rw [show fX16_infinite 2 = Int64.ofNat 2139095040 by decide]
    exact mw2 g (by decide)
  have nz : fX16_withSign 2 (bI g) 0 = Int64.ofNat (sg2 g) := mw2 g (a := 0) (by decide)
  rw [ev_lm, aX16_quotient_0]
  unfold tX16_quotient_41 dv2
  simp only [k, r1, r2, k1, k2, i1, j1, if_true, jr_bs, s3 (so2 X) (by omega), s3 (so2 Y) (by omega), s2 (so2 X) (by omega), s2 (so2 Y) (by omega), s1 (so2 X) (by omega), s1 (so2 Y) (by omega), s0, s4, i2, i3, j2, j3, hg, nn, ni, nz, jr_let, zz_sb]
  by_cases c1 : so2 X = 3
  · simp (disch := omega) only [c1, ↓reduceIte, jr_kl, jr_kr, ↓jr_let, jr_bs, and_true, true_and, and_false, false_and, or_true, true_or, or_false, false_or, not_true_eq_false, not_false_eq_true, b_let, b_lef, b_ltt, b_ltf, b_eqt, b_eqf, bz_let, bz_lef, bz_ltt, bz_ltf, bz_eqt, bz_eqf, Nat.reducePow, Nat.reduceMul, Nat.reduceAdd, Nat.reduceSub, Nat.reduceMod, Nat.reduceDiv, Int.reduceAdd, Int.reduceSub, Int.reduceMul, Int.reduceNeg, Int.reduceToNat, Int.toNat_natCast]
  by_cases c2 : so2 Y = 3
  · simp (disch := omega) only [c1, c2, ↓reduceIte, jr_kl, jr_kr, ↓jr_let, jr_bs, and_true, true_and, and_false, false_and, or_true, true_or, or_false, false_or, not_true_eq_false, not_false_eq_true, b_let, b_lef, b_ltt, b_ltf, b_eqt, b_eqf, bz_let, bz_lef, bz_ltt, bz_ltf, bz_eqt, bz_eqf, Nat.reducePow, Nat.reduceMul, Nat.reduceAdd, Nat.reduceSub, Nat.reduceMod, Nat.reduceDiv, Int.reduceAdd, Int.reduceSub, Int.reduceMul, Int.reduceNeg, Int.reduceToNat, Int.toNat_natCast]
  by_cases c3 : so2 X = so2 Y
  · by_cases c0 : so2 X = 0
    · have F := mq2_f (H := H) (X := X) (Y := Y) (by omega) (by omega) g
      have c4 : so2 Y = 0 := by omega
      simp (disch := omega) only [c0, c4, F, ↓reduceIte, jr_kl, jr_kr, ↓jr_let, jr_bs, and_true, true_and, and_false, false_and, or_true, true_or, or_false, false_or, not_true_eq_false, not_false_eq_true, b_let, b_lef, b_ltt, b_ltf, b_eqt, b_eqf, bz_let, bz_lef, bz_ltt, bz_ltf, bz_eqt, bz_eqf, Nat.reducePow, Nat.reduceMul, Nat.reduceAdd, Nat.reduceSub, Nat.reduceMod, Nat.reduceDiv, Int.reduceAdd, Int.reduceSub, Int.reduceMul, Int.reduceNeg, Int.reduceToNat, Int.toNat_natCast, ne_eq]
    · simp (disch := omega) only [c1, c2, c3, c0, ↓reduceIte, jr_kl, jr_kr, ↓jr_let, jr_bs, and_true, true_and, and_false, false_and, or_true, true_or, or_false, false_or, not_true_eq_false, not_false_eq_true, b_let, b_lef, b_ltt, b_ltf, b_eqt, b_eqf, bz_let, bz_lef, bz_ltt, bz_ltf, bz_eqt, bz_eqf, Nat.reducePow, Nat.reduceMul, Nat.reduceAdd, Nat.reduceSub, Nat.reduceMod, Nat.reduceDiv, Int.reduceAdd, Int.reduceSub, Int.reduceMul, Int.reduceNeg, Int.reduceToNat, Int.toNat_natCast, ne_eq]
  by_cases c4 : so2 X = 2
  · simp (disch := omega) only [c1, c2, c3, c4, ↓reduceIte, jr_kl, jr_kr, ↓jr_let, jr_bs, and_true, true_and, and_false, false_and, or_true, true_or, or_false, false_or, not_true_eq_false, not_false_eq_true, b_let, b_lef, b_ltt, b_ltf, b_eqt, b_eqf, bz_let, bz_lef, bz_ltt, bz_ltf, bz_eqt, bz_eqf, Nat.reducePow, Nat.reduceMul, Nat.reduceAdd, Nat.reduceSub, Nat.reduceMod, Nat.reduceDiv, Int.reduceAdd, Int.reduceSub, Int.reduceMul, Int.reduceNeg, Int.reduceToNat, Int.toNat_natCast, ne_eq]
  by_cases c5 : so2 Y = 1
  · simp (disch := omega) only [c1, c2, c3, c4, c5, ↓reduceIte, jr_kl, jr_kr, ↓jr_let, jr_bs, and_true, true_and, and_false, false_and, or_true, true_or, or_false, false_or, not_true_eq_false, not_false_eq_true, b_let, b_lef, b_ltt, b_ltf, b_eqt, b_eqf, bz_let, bz_lef, bz_ltt, bz_ltf, bz_eqt, bz_eqf, Nat.reducePow, Nat.reduceMul, Nat.reduceAdd, Nat.reduceSub, Nat.reduceMod, Nat.reduceDiv, Int.reduceAdd, Int.reduceSub, Int.reduceMul, Int.reduceNeg, Int.reduceToNat, Int.toNat_natCast, ne_eq]
  by_cases c6 : so2 X = 1
  · simp (disch := omega) only [c1, c2, c3, c4, c5, c6, ↓reduceIte, jr_kl, jr_kr, ↓jr_let, jr_bs, and_true, true_and, and_false, false_and, or_true, true_or, or_false, false_or, not_true_eq_false, not_false_eq_true, b_let, b_lef, b_ltt, b_ltf, b_eqt, b_eqf, bz_let, bz_lef, bz_ltt, bz_ltf, bz_eqt, bz_eqf, Nat.reducePow, Nat.reduceMul, Nat.reduceAdd, Nat.reduceSub, Nat.reduceMod, Nat.reduceDiv, Int.reduceAdd, Int.reduceSub, Int.reduceMul, Int.reduceNeg, Int.reduceToNat, Int.toNat_natCast, ne_eq]
  by_cases c7 : so2 Y = 2
  · simp (disch := omega) only [c1, c2, c3, c4, c5, c6, c7, ↓reduceIte, jr_kl, jr_kr, ↓jr_let, jr_bs, and_true, true_and, and_false, false_and, or_true, true_or, or_false, false_or, not_true_eq_false, not_false_eq_true, b_let, b_lef, b_ltt, b_ltf, b_eqt, b_eqf, bz_let, bz_lef, bz_ltt, bz_ltf, bz_eqt, bz_eqf, Nat.reducePow, Nat.reduceMul, Nat.reduceAdd, Nat.reduceSub, Nat.reduceMod, Nat.reduceDiv, Int.reduceAdd, Int.reduceSub, Int.reduceMul, Int.reduceNeg, Int.reduceToNat, Int.toNat_natCast, ne_eq]
  omega
def sA3 (X : Nat) : Nat := wh3 X * 2 ^ (53 - nl (wh3 X))
def sE3 (X : Nat) : Int := pw3 X - (53 - nl (wh3 X) : Nat)
theorem sE3_b (X : Nat) : -1200 ≤ sE3 X ∧ sE3 X ≤ 1000 := by
  have p := pw3_b X
  have l : nl (wh3 X) ≤ 53 := nl_le (by have := wh3_lt X; omega)
  unfold sE3
  omega
def dv3 (X Y : Nat) : Nat := if so3 X = 3 ∨ so3 Y = 3 ∨ (so3 X = so3 Y ∧ so3 X ≠ 0) then 9221120237041090560 else if so3 X = 2 ∨ so3 Y = 1 then sg3 (ng3 X ^^ ng3 Y) + 9218868437227405312 else if so3 X = 1 ∨ so3 Y = 2 then sg3 (ng3 X ^^ ng3 Y) else f3 (ng3 X ^^ ng3 Y) (72057594037927936 * sA3 X / sA3 Y) (sE3 X - sE3 Y - 56) (decide (72057594037927936 * sA3 X % sA3 Y ≠ 0))
theorem mq3_f {H : pm_H} {X Y : Nat} (x0 : X % 9223372036854775808 ≠ 0) (y0 : Y % 9223372036854775808 ≠ 0) (g : Bool) : pm_lim sX16_quotient (.inr (.inl (3, bI g, Int64.ofNat (wh3 X), Int64.ofNat (wh3 Y), Int32.ofInt (pw3 X - pw3 Y), H))) = some (Int64.ofNat (f3 g (72057594037927936 * sA3 X / sA3 Y) (sE3 X - sE3 Y - 56) (decide (72057594037927936 * sA3 X % sA3 Y ≠ 0))), H) := by
  have wX := wh3_lt X
  have wY := wh3_lt Y
  have pX := pw3_b X
  have pY := pw3_b Y
  have l1 : nl (wh3 X) ≤ 53 := nl_le (by omega)
  have l2 : nl (wh3 Y) ≤ 53 := nl_le (by omega)
  have sx := sn3 x0
  have sy := sn3 y0
  have eA : wh3 X * 2 ^ (53 - nl (wh3 X)) = sA3 X := rfl
  have eB : wh3 Y * 2 ^ (53 - nl (wh3 Y)) = sA3 Y := rfl
  have eE : pw3 X - pw3 Y - ((53 - nl (wh3 X) : Nat) : Int) + ((53 - nl (wh3 Y) : Nat) : Int) = sE3 X - sE3 Y := by unfold sE3; omega
  rw [eA] at sx
  rw [eB] at sy
  have bE := sE3_b X
  have bF := sE3_b Y
  rw [jq_a 3 (bI g) H _ (53 - nl (wh3 X)) (wh3 X) _ (by omega) (wh3_0 x0) (by omega) (by omega), jq_b 3 (bI g) H _ (53 - nl (wh3 Y)) (wh3 Y) _ (by omega) (wh3_0 y0) (by omega) (by omega), eA, eB, eE]
  have M := jq_m 3 (bI g) H (B := sA3 Y) (Int32.ofInt (sE3 X - sE3 Y)) sy.1 (by omega) 57 (sA3 X) 0 0 (by omega) (by omega) (by omega)
  have d1 : 2 ^ 57 * (0 * (2 * sA3 Y) + sA3 X) = 2 * (72057594037927936 * sA3 X) := by rw [Nat.zero_mul, Nat.zero_add]; omega
  rw [d1, Nat.mul_div_mul_left _ _ (by decide), Nat.mul_mod_mul_left] at M
  have d2 : decide (2 * (72057594037927936 * sA3 X % sA3 Y) ≠ 0) = decide (72057594037927936 * sA3 X % sA3 Y ≠ 0) := by
    by_cases c : 72057594037927936 * sA3 X % sA3 Y = 0
    · rw [c]
    · rw [decide_eq_true c, decide_eq_true (by omega)]
  rw [d2, m3_56, zz_sb] at M
  have q1 : 72057594037927936 * sA3 X / sA3 Y < 18446744073709551616 := by
    rw [Nat.div_lt_iff_lt_mul (by omega)]
    omega
  have q0 : 72057594037927936 * sA3 X / sA3 Y ≠ 0 := by
    have : 1 ≤ 72057594037927936 * sA3 X / sA3 Y := by rw [Nat.le_div_iff_mul_le (by omega)]; omega
    omega
  have R := mr3 g (decide (72057594037927936 * sA3 X % sA3 Y ≠ 0)) (hi := 0) (E := sE3 X - sE3 Y - 56) (by decide) q1 (by rw [Nat.zero_mul, Nat.zero_add]) q0 (by omega) (by omega)
  rw [show Int64.ofNat 0 = 0 from rfl] at R
  rw [R, jr_bs] at M
  rw [show (0 : Int32) = Int32.ofInt 0 from rfl, show (0 : Int64) = Int64.ofNat 0 from rfl]
  exact M
theorem mq3_b {H : pm_H} (O : mO H) {X Y : Nat} (hm : m2 H (ng3 X) (so3 X) (wh3 X) (pw3 X) (ng3 Y) (so3 Y) (wh3 Y) (pw3 Y)) {g : Bool} (hg : (ng3 X ^^ ng3 Y) = g) : pm_lim sX16_quotient (.inl (592, 3, bI g, H)) = some (Int64.ofNat (dv3 X Y), H) := by
  obtain ⟨k, r1, r2, k1, k2⟩ := O
  obtain ⟨i0, i1, i2, i3, j0, j1, j2, j3⟩ := hm
  have cX := so3_c X
  have cY := so3_c Y
  have s3 : ∀ s : Nat, s ≤ 3 → (Int32.ofInt (s : Int) = (3 : Int32)) = (s = 3) := fun s hs => so3_i s 3 hs (by decide)
  have s2 : ∀ s : Nat, s ≤ 3 → (Int32.ofInt (s : Int) = (2 : Int32)) = (s = 2) := fun s hs => so3_i s 2 hs (by decide)
  have s1 : ∀ s : Nat, s ≤ 3 → (Int32.ofInt (s : Int) = (1 : Int32)) = (s = 1) := fun s hs => so3_i s 1 hs (by decide)
  have s0 : (Int32.ofInt (so3 X : Int) ≤ (0 : Int32)) = (so3 X = 0) := by
    rw [m3_0, zz_le (by omega) (by omega) (by omega) (by omega)]
    exact propext ⟨fun z => by omega, fun z => by omega⟩
  have s4 : (Int32.ofInt (so3 X) = Int32.ofInt (so3 Y)) = (so3 X = so3 Y) := so3_i _ _ (by omega) (by omega)
  have nn : fX16_noneOf 3 = Int64.ofNat 9221120237041090560 := by decide
  have ni : fX16_withSign 3 (bI g) (fX16_infinite 3) = Int64.ofNat (sg3 g + 9218868437227405312) := by
    rw [show fX16_infinite 3 = Int64.ofNat 9218868437227405312 by decide]
    exact mw3 g (by decide)
  have nz : fX16_withSign 3 (bI g) 0 = Int64.ofNat (sg3 g) := mw3 g (a := 0) (by decide)
  rw [ev_lm, aX16_quotient_0]
  unfold tX16_quotient_41 dv3
  simp only [k, r1, r2, k1, k2, i1, j1, if_true, jr_bs, s3 (so3 X) (by omega), s3 (so3 Y) (by omega), s2 (so3 X) (by omega), s2 (so3 Y) (by omega), s1 (so3 X) (by omega), s1 (so3 Y) (by omega), s0, s4, i2, i3, j2, j3, hg, nn, ni, nz, jr_let, zz_sb]
  by_cases c1 : so3 X = 3
  · simp (disch := omega) only [c1, ↓reduceIte, jr_kl, jr_kr, ↓jr_let, jr_bs, and_true, true_and, and_false, false_and, or_true, true_or, or_false, false_or, not_true_eq_false, not_false_eq_true, b_let, b_lef, b_ltt, b_ltf, b_eqt, b_eqf, bz_let, bz_lef, bz_ltt, bz_ltf, bz_eqt, bz_eqf, Nat.reducePow, Nat.reduceMul, Nat.reduceAdd, Nat.reduceSub, Nat.reduceMod, Nat.reduceDiv, Int.reduceAdd, Int.reduceSub, Int.reduceMul, Int.reduceNeg, Int.reduceToNat, Int.toNat_natCast]
  by_cases c2 : so3 Y = 3
  · simp (disch := omega) only [c1, c2, ↓reduceIte, jr_kl, jr_kr, ↓jr_let, jr_bs, and_true, true_and, and_false, false_and, or_true, true_or, or_false, false_or, not_true_eq_false, not_false_eq_true, b_let, b_lef, b_ltt, b_ltf, b_eqt, b_eqf, bz_let, bz_lef, bz_ltt, bz_ltf, bz_eqt, bz_eqf, Nat.reducePow, Nat.reduceMul, Nat.reduceAdd, Nat.reduceSub, Nat.reduceMod, Nat.reduceDiv, Int.reduceAdd, Int.reduceSub, Int.reduceMul, Int.reduceNeg, Int.reduceToNat, Int.toNat_natCast]
  by_cases c3 : so3 X = so3 Y
  · by_cases c0 : so3 X = 0
    · have F := mq3_f (H := H) (X := X) (Y := Y) (by omega) (by omega) g
      have c4 : so3 Y = 0 := by omega
      simp (disch := omega) only [c0, c4, F, ↓reduceIte, jr_kl, jr_kr, ↓jr_let, jr_bs, and_true, true_and, and_false, false_and, or_true, true_or, or_false, false_or, not_true_eq_false, not_false_eq_true, b_let, b_lef, b_ltt, b_ltf, b_eqt, b_eqf, bz_let, bz_lef, bz_ltt, bz_ltf, bz_eqt, bz_eqf, Nat.reducePow, Nat.reduceMul, Nat.reduceAdd, Nat.reduceSub, Nat.reduceMod, Nat.reduceDiv, Int.reduceAdd, Int.reduceSub, Int.reduceMul, Int.reduceNeg, Int.reduceToNat, Int.toNat_natCast, ne_eq]
    · simp (disch := omega) only [c1, c2, c3, c0, ↓reduceIte, jr_kl, jr_kr, ↓jr_let, jr_bs, and_true, true_and, and_false, false_and, or_true, true_or, or_false, false_or, not_true_eq_false, not_false_eq_true, b_let, b_lef, b_ltt, b_ltf, b_eqt, b_eqf, bz_let, bz_lef, bz_ltt, bz_ltf, bz_eqt, bz_eqf, Nat.reducePow, Nat.reduceMul, Nat.reduceAdd, Nat.reduceSub, Nat.reduceMod, Nat.reduceDiv, Int.reduceAdd, Int.reduceSub, Int.reduceMul, Int.reduceNeg, Int.reduceToNat, Int.toNat_natCast, ne_eq]
  by_cases c4 : so3 X = 2
  · simp (disch := omega) only [c1, c2, c3, c4, ↓reduceIte, jr_kl, jr_kr, ↓jr_let, jr_bs, and_true, true_and, and_false, false_and, or_true, true_or, or_false, false_or, not_true_eq_false, not_false_eq_true, b_let, b_lef, b_ltt, b_ltf, b_eqt, b_eqf, bz_let, bz_lef, bz_ltt, bz_ltf, bz_eqt, bz_eqf, Nat.reducePow, Nat.reduceMul, Nat.reduceAdd, Nat.reduceSub, Nat.reduceMod, Nat.reduceDiv, Int.reduceAdd, Int.reduceSub, Int.reduceMul, Int.reduceNeg, Int.reduceToNat, Int.toNat_natCast, ne_eq]
  by_cases c5 : so3 Y = 1
  · simp (disch := omega) only [c1, c2, c3, c4, c5, ↓reduceIte, jr_kl, jr_kr, ↓jr_let, jr_bs, and_true, true_and, and_false, false_and, or_true, true_or, or_false, false_or, not_true_eq_false, not_false_eq_true, b_let, b_lef, b_ltt, b_ltf, b_eqt, b_eqf, bz_let, bz_lef, bz_ltt, bz_ltf, bz_eqt, bz_eqf, Nat.reducePow, Nat.reduceMul, Nat.reduceAdd, Nat.reduceSub, Nat.reduceMod, Nat.reduceDiv, Int.reduceAdd, Int.reduceSub, Int.reduceMul, Int.reduceNeg, Int.reduceToNat, Int.toNat_natCast, ne_eq]
  by_cases c6 : so3 X = 1
  · simp (disch := omega) only [c1, c2, c3, c4, c5, c6, ↓reduceIte, jr_kl, jr_kr, ↓jr_let, jr_bs, and_true, true_and, and_false, false_and, or_true, true_or, or_false, false_or, not_true_eq_false, not_false_eq_true, b_let, b_lef, b_ltt, b_ltf, b_eqt, b_eqf, bz_let, bz_lef, bz_ltt, bz_ltf, bz_eqt, bz_eqf, Nat.reducePow, Nat.reduceMul, Nat.reduceAdd, Nat.reduceSub, Nat.reduceMod, Nat.reduceDiv, Int.reduceAdd, Int.reduceSub, Int.reduceMul, Int.reduceNeg, Int.reduceToNat, Int.toNat_natCast, ne_eq]
  by_cases c7 : so3 Y = 2
  · simp (disch := omega) only [c1, c2, c3, c4, c5, c6, c7, ↓reduceIte, jr_kl, jr_kr, ↓jr_let, jr_bs, and_true, true_and, and_false, false_and, or_true, true_or, or_false, false_or, not_true_eq_false, not_false_eq_true, b_let, b_lef, b_ltt, b_ltf, b_eqt, b_eqf, bz_let, bz_lef, bz_ltt, bz_ltf, bz_eqt, bz_eqf, Nat.reducePow, Nat.reduceMul, Nat.reduceAdd, Nat.reduceSub, Nat.reduceMod, Nat.reduceDiv, Int.reduceAdd, Int.reduceSub, Int.reduceMul, Int.reduceNeg, Int.reduceToNat, Int.toNat_natCast, ne_eq]
  omega
theorem mq2 {h : pm_H} (O : mO h) {X Y : Nat} (hX : X < 4294967296) (hY : Y < 4294967296) : fX16_quotient h 592 2 (Int64.ofNat X) (Int64.ofNat Y) = some (Int64.ofNat (dv2 X Y), rv (rv h 605 (ng2 X) (so2 X) (wh2 X) (pw2 X)) 606 (ng2 Y) (so2 Y) (wh2 Y) (pw2 Y)) := by
  have O1 := rv_O 605 (ng2 X) (so2 X) (wh2 X) (pw2 X) O
  have O2 := rv_O 606 (ng2 Y) (so2 Y) (wh2 Y) (pw2 Y) O1
  have e1 := mf2 (h := h) (a := 605) O.2.2.2.1 hX
  have e2 := mf2 (h := rv h 605 (ng2 X) (so2 X) (wh2 X) (pw2 X)) (a := 606) O1.2.2.2.2 hY
  have hm := m2_rv h (ng2 X) (so2 X) (wh2 X) (pw2 X) (ng2 Y) (so2 Y) (wh2 Y) (pw2 Y)
  unfold fX16_quotient
  rw [if_pos O.1, O.2.1, jr_bs, if_pos O.2.2.2.1, e1, jr_bs, if_pos O1.1, O1.2.2.1, jr_bs, if_pos O1.2.2.2.2, e2, jr_bs]
  generalize rv (rv h 605 (ng2 X) (so2 X) (wh2 X) (pw2 X)) 606 (ng2 Y) (so2 Y) (wh2 Y) (pw2 Y) = H at *
  rw [if_pos O2.1, O2.2.1, jr_bs, if_pos O2.2.2.2.1, O2.2.2.1, jr_bs, if_pos O2.2.2.2.2, hm.1, hm.2.2.2.2.1]
  by_cases c : (ng2 X ^^ ng2 Y) = false
  · rw [if_pos (by rw [bN_ne]; exact c), show (0 : Int32) = bI false from rfl]
    exact mq2_b O2 hm c
  · rw [if_neg (by rw [bN_ne]; exact c), show (1 : Int32) = bI true from rfl]
    exact mq2_b O2 hm (bx_t c)
theorem cd2_f {X Y : Nat} (hX : X < 4294967296) (hY : Y < 4294967296) (x0 : X % 2147483648 ≠ 0) (y0 : Y % 2147483648 ≠ 0) (g : Bool) : pm_lim sX8_divide (.inr (.inr (2, Int64.ofNat X, Int64.ofNat Y, bI g, Int64.ofNat (sA2 X % sA2 Y), Int64.ofNat (sA2 Y), Int64.ofNat (sA2 X / sA2 Y), 0))) = some (Int64.ofNat (f2 g (72057594037927936 * sA2 X / sA2 Y) (sE2 X - sE2 Y - 56) (decide (72057594037927936 * sA2 X % sA2 Y ≠ 0)))) := by
  have sx := sn2 x0
  have sy := sn2 y0
  have eA : wh2 X * 2 ^ (53 - nl (wh2 X)) = sA2 X := rfl
  have eB : wh2 Y * 2 ^ (53 - nl (wh2 Y)) = sA2 Y := rfl
  rw [eA] at sx
  rw [eB] at sy
  have bE := sE2_b X
  have bF := sE2_b Y
  have q1 : 1152921504606846976 * sA2 X / sA2 Y < 9223372036854775808 := by
    rw [Nat.div_lt_iff_lt_mul (by omega)]
    omega
  have d0 : sA2 X / sA2 Y * sA2 Y + sA2 X % sA2 Y = sA2 X := by rw [Nat.mul_comm]; exact Nat.div_add_mod _ _
  have L := jq_c 2 (Int64.ofNat X) (Int64.ofNat Y) (bI g) (B := sA2 Y) sy.1 (by omega) 6 (sA2 X % sA2 Y) (sA2 X / sA2 Y) 0 (by omega) (by omega) (Nat.mod_lt _ (by omega))
  rw [d0, show (1024 : Nat) ^ 6 = 1152921504606846976 from rfl] at L
  have L := L q1
  rw [show (0 : Int32) = Int32.ofInt 0 from rfl, L, cq2 hX x0, cq2 hY y0]
  have o1 : od (1152921504606846976 * sA2 X / sA2 Y) (decide (1152921504606846976 * sA2 X % sA2 Y ≠ 0)) < 18446744073709551616 := by
    unfold od
    split <;> omega
  have eE : pw2 X - ((53 - nl (wh2 X) : Nat) : Int) = sE2 X := rfl
  have eF : pw2 Y - ((53 - nl (wh2 Y) : Nat) : Int) = sE2 Y := rfl
  rw [eE, eF, m3_60, zz_sb, zz_sb, cr2 g o1 (by omega) (by omega)]
  have F := fl_dv (w := 31) (p := 24) (em := (-149)) (top := 255) (g := g) (A := sA2 X) (B := sA2 Y) (E := sE2 X - sE2 Y - 60) (by decide) (by decide) sx.2 sy.1 (by omega)
  unfold f2
  rw [F, show sE2 X - sE2 Y - 60 + 4 = sE2 X - sE2 Y - 56 by omega]
theorem cd2_b {X Y : Nat} (hX : X < 4294967296) (hY : Y < 4294967296) (nX : so2 X ≠ 3) (nY : so2 Y ≠ 3) {g : Bool} (hg : (ng2 X ^^ ng2 Y) = g) : pm_lim sX8_divide (.inr (.inl (2, Int64.ofNat X, Int64.ofNat Y, bI g, Int64.ofNat (sg2 g)))) = some (Int64.ofNat (dv2 X Y)) := by
  have cX := so2_c X
  have cY := so2_c Y
  have ni : Int64.ofNat (sg2 g) ||| fX8_infinite 2 = Int64.ofNat (sg2 g + 2139095040) := by
    rw [show fX8_infinite 2 = Int64.ofNat 2139095040 by decide]
    have o := jl_o (k := 31) (a := 2139095040) (c := bN g) (by decide) (by cases g <;> decide)
    have e : bN g * 2 ^ 31 = sg2 g := by cases g <;> rfl
    rw [e] at o
    exact o
  have nn : fX8_none 2 = Int64.ofNat 2143289344 := by decide
  rw [ev_lm, aX8_divide_1]
  unfold tX8_divide_33 dv2
  by_cases cf : so2 X = 0 ∧ so2 Y = 0
  · obtain ⟨c1, c2⟩ := cf
    have x0 : X % 2147483648 ≠ 0 := by omega
    have y0 : Y % 2147483648 ≠ 0 := by omega
    have F := cd2_f hX hY x0 y0 g
    have sx := sn2 x0
    have sy := sn2 y0
    have eA : wh2 X * 2 ^ (53 - nl (wh2 X)) = sA2 X := rfl
    have eB : wh2 Y * 2 ^ (53 - nl (wh2 Y)) = sA2 Y := rfl
    rw [eA] at sx
    rw [eB] at sy
    have d0 : sA2 X / sA2 Y * sA2 Y + sA2 X % sA2 Y = sA2 X := by rw [Nat.mul_comm]; exact Nat.div_add_mod _ _
    have mx : (if Int64.ofNat (sA2 Y) < (1 : Int64) then (1 : Int64) else Int64.ofNat (sA2 Y)) = Int64.ofNat (sA2 Y) := by
      rw [if_neg (by rw [n6_1, ll_lt (by omega) (by decide)]; omega)]
    have nz : ¬ Int64.ofNat (sA2 Y) = 0 := by rw [n6_0, jl_eq (by omega) (by decide)]; omega
    have dv := ll_dv (a := sA2 X) (b := sA2 Y) (by omega) (by omega)
    have sb := ll_sb (m := sA2 X) (n := sA2 X / sA2 Y * sA2 Y) (by omega)
    have e4 : sA2 X - sA2 X / sA2 Y * sA2 Y = sA2 X % sA2 Y := by omega
    simp (disch := omega) only [cf2_zero hX, cf2_zero hY, cf2_inf hX, cf2_inf hY, bI_0, decide_eq_false_iff_not, c1, c2, hg, cs2 hX x0, cs2 hY y0, eA, eB, mx, nz, dv, ll_ml, sb, e4, F, ↓reduceIte, jr_kl, jr_kr, ↓jr_let, jr_bs, and_true, true_and, and_false, false_and, or_true, true_or, or_false, false_or, not_true_eq_false, not_false_eq_true, b_let, b_lef, b_ltt, b_ltf, b_eqt, b_eqf, bz_let, bz_lef, bz_ltt, bz_ltf, bz_eqt, bz_eqf, Nat.reducePow, Nat.reduceMul, Nat.reduceAdd, Nat.reduceSub, Nat.reduceMod, Nat.reduceDiv, Int.reduceAdd, Int.reduceSub, Int.reduceMul, Int.reduceNeg, Int.reduceToNat, Int.toNat_natCast, ne_eq]
  · simp only [jr_let, cf2_zero hX, cf2_zero hY, cf2_inf hX, cf2_inf hY, bI_0, decide_eq_false_iff_not, hg, ni, nn]
    by_cases c1 : so2 X = 2
    · by_cases c2 : so2 Y = 2
      · simp (disch := omega) only [c1, c2, ↓reduceIte, jr_kl, jr_kr, ↓jr_let, jr_bs, and_true, true_and, and_false, false_and, or_true, true_or, or_false, false_or, not_true_eq_false, not_false_eq_true, b_let, b_lef, b_ltt, b_ltf, b_eqt, b_eqf, bz_let, bz_lef, bz_ltt, bz_ltf, bz_eqt, bz_eqf, Nat.reducePow, Nat.reduceMul, Nat.reduceAdd, Nat.reduceSub, Nat.reduceMod, Nat.reduceDiv, Int.reduceAdd, Int.reduceSub, Int.reduceMul, Int.reduceNeg, Int.reduceToNat, Int.toNat_natCast, ne_eq]
      · simp (disch := omega) only [c1, c2, ↓reduceIte, jr_kl, jr_kr, ↓jr_let, jr_bs, and_true, true_and, and_false, false_and, or_true, true_or, or_false, false_or, not_true_eq_false, not_false_eq_true, b_let, b_lef, b_ltt, b_ltf, b_eqt, b_eqf, bz_let, bz_lef, bz_ltt, bz_ltf, bz_eqt, bz_eqf, Nat.reducePow, Nat.reduceMul, Nat.reduceAdd, Nat.reduceSub, Nat.reduceMod, Nat.reduceDiv, Int.reduceAdd, Int.reduceSub, Int.reduceMul, Int.reduceNeg, Int.reduceToNat, Int.toNat_natCast, ne_eq]
    by_cases c3 : so2 Y = 2
    · simp (disch := omega) only [c1, c3, ↓reduceIte, jr_kl, jr_kr, ↓jr_let, jr_bs, and_true, true_and, and_false, false_and, or_true, true_or, or_false, false_or, not_true_eq_false, not_false_eq_true, b_let, b_lef, b_ltt, b_ltf, b_eqt, b_eqf, bz_let, bz_lef, bz_ltt, bz_ltf, bz_eqt, bz_eqf, Nat.reducePow, Nat.reduceMul, Nat.reduceAdd, Nat.reduceSub, Nat.reduceMod, Nat.reduceDiv, Int.reduceAdd, Int.reduceSub, Int.reduceMul, Int.reduceNeg, Int.reduceToNat, Int.toNat_natCast, ne_eq]
    by_cases c5 : so2 Y = 1
    · by_cases c6 : so2 X = 1
      · simp (disch := omega) only [c1, c3, c5, c6, ↓reduceIte, jr_kl, jr_kr, ↓jr_let, jr_bs, and_true, true_and, and_false, false_and, or_true, true_or, or_false, false_or, not_true_eq_false, not_false_eq_true, b_let, b_lef, b_ltt, b_ltf, b_eqt, b_eqf, bz_let, bz_lef, bz_ltt, bz_ltf, bz_eqt, bz_eqf, Nat.reducePow, Nat.reduceMul, Nat.reduceAdd, Nat.reduceSub, Nat.reduceMod, Nat.reduceDiv, Int.reduceAdd, Int.reduceSub, Int.reduceMul, Int.reduceNeg, Int.reduceToNat, Int.toNat_natCast, ne_eq]
      · simp (disch := omega) only [c1, c3, c5, c6, ↓reduceIte, jr_kl, jr_kr, ↓jr_let, jr_bs, and_true, true_and, and_false, false_and, or_true, true_or, or_false, false_or, not_true_eq_false, not_false_eq_true, b_let, b_lef, b_ltt, b_ltf, b_eqt, b_eqf, bz_let, bz_lef, bz_ltt, bz_ltf, bz_eqt, bz_eqf, Nat.reducePow, Nat.reduceMul, Nat.reduceAdd, Nat.reduceSub, Nat.reduceMod, Nat.reduceDiv, Int.reduceAdd, Int.reduceSub, Int.reduceMul, Int.reduceNeg, Int.reduceToNat, Int.toNat_natCast, ne_eq]
    by_cases c6 : so2 X = 1
    · simp (disch := omega) only [c1, c3, c5, c6, ↓reduceIte, jr_kl, jr_kr, ↓jr_let, jr_bs, and_true, true_and, and_false, false_and, or_true, true_or, or_false, false_or, not_true_eq_false, not_false_eq_true, b_let, b_lef, b_ltt, b_ltf, b_eqt, b_eqf, bz_let, bz_lef, bz_ltt, bz_ltf, bz_eqt, bz_eqf, Nat.reducePow, Nat.reduceMul, Nat.reduceAdd, Nat.reduceSub, Nat.reduceMod, Nat.reduceDiv, Int.reduceAdd, Int.reduceSub, Int.reduceMul, Int.reduceNeg, Int.reduceToNat, Int.toNat_natCast, ne_eq]
    exact absurd ⟨by omega, by omega⟩ cf
theorem cd2 {X Y : Nat} (hX : X < 4294967296) (hY : Y < 4294967296) (nX : so2 X ≠ 3) (nY : so2 Y ≠ 3) : fX8_divide 2 (Int64.ofNat X) (Int64.ofNat Y) = some (Int64.ofNat (dv2 X Y)) := by
  unfold fX8_divide
  rw [jr_let, jr_let, cf2_minus hX, cf2_minus hY]
  by_cases c : (ng2 X ^^ ng2 Y) = false
  · have e := cd2_b hX hY nX nY c
    rw [show bI false = 0 from rfl, show Int64.ofNat (sg2 false) = 0 by decide] at e
    rw [if_pos (by rw [bN_ne]; exact c), ev_lm, aX8_divide_0]
    unfold tX8_divide_18
    rw [if_pos rfl, jr_kl, e]
  · rw [if_neg (by rw [bN_ne]; exact c), ev_lm, aX8_divide_0]
    unfold tX8_divide_18
    rw [if_neg (by decide), jr_let, jr_kl, show fX8_sign 2 = Int64.ofNat (sg2 true) by decide, show (1 : Int32) = bI true from rfl, cd2_b hX hY nX nY (bx_t c)]
theorem mq3 {h : pm_H} (O : mO h) {X Y : Nat} (hX : X < 18446744073709551616) (hY : Y < 18446744073709551616) : fX16_quotient h 592 3 (Int64.ofNat X) (Int64.ofNat Y) = some (Int64.ofNat (dv3 X Y), rv (rv h 605 (ng3 X) (so3 X) (wh3 X) (pw3 X)) 606 (ng3 Y) (so3 Y) (wh3 Y) (pw3 Y)) := by
  have O1 := rv_O 605 (ng3 X) (so3 X) (wh3 X) (pw3 X) O
  have O2 := rv_O 606 (ng3 Y) (so3 Y) (wh3 Y) (pw3 Y) O1
  have e1 := mf3 (h := h) (a := 605) O.2.2.2.1 hX
  have e2 := mf3 (h := rv h 605 (ng3 X) (so3 X) (wh3 X) (pw3 X)) (a := 606) O1.2.2.2.2 hY
  have hm := m2_rv h (ng3 X) (so3 X) (wh3 X) (pw3 X) (ng3 Y) (so3 Y) (wh3 Y) (pw3 Y)
  unfold fX16_quotient
  rw [if_pos O.1, O.2.1, jr_bs, if_pos O.2.2.2.1, e1, jr_bs, if_pos O1.1, O1.2.2.1, jr_bs, if_pos O1.2.2.2.2, e2, jr_bs]
  generalize rv (rv h 605 (ng3 X) (so3 X) (wh3 X) (pw3 X)) 606 (ng3 Y) (so3 Y) (wh3 Y) (pw3 Y) = H at *
  rw [if_pos O2.1, O2.2.1, jr_bs, if_pos O2.2.2.2.1, O2.2.2.1, jr_bs, if_pos O2.2.2.2.2, hm.1, hm.2.2.2.2.1]
  by_cases c : (ng3 X ^^ ng3 Y) = false
  · rw [if_pos (by rw [bN_ne]; exact c), show (0 : Int32) = bI false from rfl]
    exact mq3_b O2 hm c
  · rw [if_neg (by rw [bN_ne]; exact c), show (1 : Int32) = bI true from rfl]
    exact mq3_b O2 hm (bx_t c)
theorem cd3_f {X Y : Nat} (hX : X < 18446744073709551616) (hY : Y < 18446744073709551616) (x0 : X % 9223372036854775808 ≠ 0) (y0 : Y % 9223372036854775808 ≠ 0) (g : Bool) : pm_lim sX8_divide (.inr (.inr (3, Int64.ofNat X, Int64.ofNat Y, bI g, Int64.ofNat (sA3 X % sA3 Y), Int64.ofNat (sA3 Y), Int64.ofNat (sA3 X / sA3 Y), 0))) = some (Int64.ofNat (f3 g (72057594037927936 * sA3 X / sA3 Y) (sE3 X - sE3 Y - 56) (decide (72057594037927936 * sA3 X % sA3 Y ≠ 0)))) := by
  have sx := sn3 x0
  have sy := sn3 y0
  have eA : wh3 X * 2 ^ (53 - nl (wh3 X)) = sA3 X := rfl
  have eB : wh3 Y * 2 ^ (53 - nl (wh3 Y)) = sA3 Y := rfl
  rw [eA] at sx
  rw [eB] at sy
  have bE := sE3_b X
  have bF := sE3_b Y
  have q1 : 1152921504606846976 * sA3 X / sA3 Y < 9223372036854775808 := by
    rw [Nat.div_lt_iff_lt_mul (by omega)]
    omega
  have d0 : sA3 X / sA3 Y * sA3 Y + sA3 X % sA3 Y = sA3 X := by rw [Nat.mul_comm]; exact Nat.div_add_mod _ _
  have L := jq_c 3 (Int64.ofNat X) (Int64.ofNat Y) (bI g) (B := sA3 Y) sy.1 (by omega) 6 (sA3 X % sA3 Y) (sA3 X / sA3 Y) 0 (by omega) (by omega) (Nat.mod_lt _ (by omega))
  rw [d0, show (1024 : Nat) ^ 6 = 1152921504606846976 from rfl] at L
  have L := L q1
  rw [show (0 : Int32) = Int32.ofInt 0 from rfl, L, cq3 hX x0, cq3 hY y0]
  have o1 : od (1152921504606846976 * sA3 X / sA3 Y) (decide (1152921504606846976 * sA3 X % sA3 Y ≠ 0)) < 18446744073709551616 := by
    unfold od
    split <;> omega
  have eE : pw3 X - ((53 - nl (wh3 X) : Nat) : Int) = sE3 X := rfl
  have eF : pw3 Y - ((53 - nl (wh3 Y) : Nat) : Int) = sE3 Y := rfl
  rw [eE, eF, m3_60, zz_sb, zz_sb, cr3 g o1 (by omega) (by omega)]
  have F := fl_dv (w := 63) (p := 53) (em := (-1074)) (top := 2047) (g := g) (A := sA3 X) (B := sA3 Y) (E := sE3 X - sE3 Y - 60) (by decide) (by decide) sx.2 sy.1 (by omega)
  unfold f3
  rw [F, show sE3 X - sE3 Y - 60 + 4 = sE3 X - sE3 Y - 56 by omega]
theorem cd3_b {X Y : Nat} (hX : X < 18446744073709551616) (hY : Y < 18446744073709551616) (nX : so3 X ≠ 3) (nY : so3 Y ≠ 3) {g : Bool} (hg : (ng3 X ^^ ng3 Y) = g) : pm_lim sX8_divide (.inr (.inl (3, Int64.ofNat X, Int64.ofNat Y, bI g, Int64.ofNat (sg3 g)))) = some (Int64.ofNat (dv3 X Y)) := by
  have cX := so3_c X
  have cY := so3_c Y
  have ni : Int64.ofNat (sg3 g) ||| fX8_infinite 3 = Int64.ofNat (sg3 g + 9218868437227405312) := by
    rw [show fX8_infinite 3 = Int64.ofNat 9218868437227405312 by decide]
    have o := jl_o (k := 63) (a := 9218868437227405312) (c := bN g) (by decide) (by cases g <;> decide)
    have e : bN g * 2 ^ 63 = sg3 g := by cases g <;> rfl
    rw [e] at o
    exact o
  have nn : fX8_none 3 = Int64.ofNat 9221120237041090560 := by decide
  rw [ev_lm, aX8_divide_1]
  unfold tX8_divide_33 dv3
  by_cases cf : so3 X = 0 ∧ so3 Y = 0
  · obtain ⟨c1, c2⟩ := cf
    have x0 : X % 9223372036854775808 ≠ 0 := by omega
    have y0 : Y % 9223372036854775808 ≠ 0 := by omega
    have F := cd3_f hX hY x0 y0 g
    have sx := sn3 x0
    have sy := sn3 y0
    have eA : wh3 X * 2 ^ (53 - nl (wh3 X)) = sA3 X := rfl
    have eB : wh3 Y * 2 ^ (53 - nl (wh3 Y)) = sA3 Y := rfl
    rw [eA] at sx
    rw [eB] at sy
    have d0 : sA3 X / sA3 Y * sA3 Y + sA3 X % sA3 Y = sA3 X := by rw [Nat.mul_comm]; exact Nat.div_add_mod _ _
    have mx : (if Int64.ofNat (sA3 Y) < (1 : Int64) then (1 : Int64) else Int64.ofNat (sA3 Y)) = Int64.ofNat (sA3 Y) := by
      rw [if_neg (by rw [n6_1, ll_lt (by omega) (by decide)]; omega)]
    have nz : ¬ Int64.ofNat (sA3 Y) = 0 := by rw [n6_0, jl_eq (by omega) (by decide)]; omega
    have dv := ll_dv (a := sA3 X) (b := sA3 Y) (by omega) (by omega)
    have sb := ll_sb (m := sA3 X) (n := sA3 X / sA3 Y * sA3 Y) (by omega)
    have e4 : sA3 X - sA3 X / sA3 Y * sA3 Y = sA3 X % sA3 Y := by omega
    simp (disch := omega) only [cf3_zero hX, cf3_zero hY, cf3_inf hX, cf3_inf hY, bI_0, decide_eq_false_iff_not, c1, c2, hg, cs3 hX x0, cs3 hY y0, eA, eB, mx, nz, dv, ll_ml, sb, e4, F, ↓reduceIte, jr_kl, jr_kr, ↓jr_let, jr_bs, and_true, true_and, and_false, false_and, or_true, true_or, or_false, false_or, not_true_eq_false, not_false_eq_true, b_let, b_lef, b_ltt, b_ltf, b_eqt, b_eqf, bz_let, bz_lef, bz_ltt, bz_ltf, bz_eqt, bz_eqf, Nat.reducePow, Nat.reduceMul, Nat.reduceAdd, Nat.reduceSub, Nat.reduceMod, Nat.reduceDiv, Int.reduceAdd, Int.reduceSub, Int.reduceMul, Int.reduceNeg, Int.reduceToNat, Int.toNat_natCast, ne_eq]
  · simp only [jr_let, cf3_zero hX, cf3_zero hY, cf3_inf hX, cf3_inf hY, bI_0, decide_eq_false_iff_not, hg, ni, nn]
    by_cases c1 : so3 X = 2
    · by_cases c2 : so3 Y = 2
      · simp (disch := omega) only [c1, c2, ↓reduceIte, jr_kl, jr_kr, ↓jr_let, jr_bs, and_true, true_and, and_false, false_and, or_true, true_or, or_false, false_or, not_true_eq_false, not_false_eq_true, b_let, b_lef, b_ltt, b_ltf, b_eqt, b_eqf, bz_let, bz_lef, bz_ltt, bz_ltf, bz_eqt, bz_eqf, Nat.reducePow, Nat.reduceMul, Nat.reduceAdd, Nat.reduceSub, Nat.reduceMod, Nat.reduceDiv, Int.reduceAdd, Int.reduceSub, Int.reduceMul, Int.reduceNeg, Int.reduceToNat, Int.toNat_natCast, ne_eq]
      · simp (disch := omega) only [c1, c2, ↓reduceIte, jr_kl, jr_kr, ↓jr_let, jr_bs, and_true, true_and, and_false, false_and, or_true, true_or, or_false, false_or, not_true_eq_false, not_false_eq_true, b_let, b_lef, b_ltt, b_ltf, b_eqt, b_eqf, bz_let, bz_lef, bz_ltt, bz_ltf, bz_eqt, bz_eqf, Nat.reducePow, Nat.reduceMul, Nat.reduceAdd, Nat.reduceSub, Nat.reduceMod, Nat.reduceDiv, Int.reduceAdd, Int.reduceSub, Int.reduceMul, Int.reduceNeg, Int.reduceToNat, Int.toNat_natCast, ne_eq]
    by_cases c3 : so3 Y = 2
    · simp (disch := omega) only [c1, c3, ↓reduceIte, jr_kl, jr_kr, ↓jr_let, jr_bs, and_true, true_and, and_false, false_and, or_true, true_or, or_false, false_or, not_true_eq_false, not_false_eq_true, b_let, b_lef, b_ltt, b_ltf, b_eqt, b_eqf, bz_let, bz_lef, bz_ltt, bz_ltf, bz_eqt, bz_eqf, Nat.reducePow, Nat.reduceMul, Nat.reduceAdd, Nat.reduceSub, Nat.reduceMod, Nat.reduceDiv, Int.reduceAdd, Int.reduceSub, Int.reduceMul, Int.reduceNeg, Int.reduceToNat, Int.toNat_natCast, ne_eq]
    by_cases c5 : so3 Y = 1
    · by_cases c6 : so3 X = 1
      · simp (disch := omega) only [c1, c3, c5, c6, ↓reduceIte, jr_kl, jr_kr, ↓jr_let, jr_bs, and_true, true_and, and_false, false_and, or_true, true_or, or_false, false_or, not_true_eq_false, not_false_eq_true, b_let, b_lef, b_ltt, b_ltf, b_eqt, b_eqf, bz_let, bz_lef, bz_ltt, bz_ltf, bz_eqt, bz_eqf, Nat.reducePow, Nat.reduceMul, Nat.reduceAdd, Nat.reduceSub, Nat.reduceMod, Nat.reduceDiv, Int.reduceAdd, Int.reduceSub, Int.reduceMul, Int.reduceNeg, Int.reduceToNat, Int.toNat_natCast, ne_eq]
      · simp (disch := omega) only [c1, c3, c5, c6, ↓reduceIte, jr_kl, jr_kr, ↓jr_let, jr_bs, and_true, true_and, and_false, false_and, or_true, true_or, or_false, false_or, not_true_eq_false, not_false_eq_true, b_let, b_lef, b_ltt, b_ltf, b_eqt, b_eqf, bz_let, bz_lef, bz_ltt, bz_ltf, bz_eqt, bz_eqf, Nat.reducePow, Nat.reduceMul, Nat.reduceAdd, Nat.reduceSub, Nat.reduceMod, Nat.reduceDiv, Int.reduceAdd, Int.reduceSub, Int.reduceMul, Int.reduceNeg, Int.reduceToNat, Int.toNat_natCast, ne_eq]
    by_cases c6 : so3 X = 1
    · simp (disch := omega) only [c1, c3, c5, c6, ↓reduceIte, jr_kl, jr_kr, ↓jr_let, jr_bs, and_true, true_and, and_false, false_and, or_true, true_or, or_false, false_or, not_true_eq_false, not_false_eq_true, b_let, b_lef, b_ltt, b_ltf, b_eqt, b_eqf, bz_let, bz_lef, bz_ltt, bz_ltf, bz_eqt, bz_eqf, Nat.reducePow, Nat.reduceMul, Nat.reduceAdd, Nat.reduceSub, Nat.reduceMod, Nat.reduceDiv, Int.reduceAdd, Int.reduceSub, Int.reduceMul, Int.reduceNeg, Int.reduceToNat, Int.toNat_natCast, ne_eq]
    exact absurd ⟨by omega, by omega⟩ cf
theorem cd3 {X Y : Nat} (hX : X < 18446744073709551616) (hY : Y < 18446744073709551616) (nX : so3 X ≠ 3) (nY : so3 Y ≠ 3) : fX8_divide 3 (Int64.ofNat X) (Int64.ofNat Y) = some (Int64.ofNat (dv3 X Y)) := by
  unfold fX8_divide
  rw [jr_let, jr_let, cf3_minus hX, cf3_minus hY]
  by_cases c : (ng3 X ^^ ng3 Y) = false
  · have e := cd3_b hX hY nX nY c
    rw [show bI false = 0 from rfl, show Int64.ofNat (sg3 false) = 0 by decide] at e
    rw [if_pos (by rw [bN_ne]; exact c), ev_lm, aX8_divide_0]
    unfold tX8_divide_18
    rw [if_pos rfl, jr_kl, e]
  · rw [if_neg (by rw [bN_ne]; exact c), ev_lm, aX8_divide_0]
    unfold tX8_divide_18
    rw [if_neg (by decide), jr_let, jr_kl, show fX8_sign 3 = Int64.ofNat (sg3 true) by decide, show (1 : Int32) = bI true from rfl, cd3_b hX hY nX nY (bx_t c)]
