/-! NUMBERS: sums: the class -/
theorem js_9 (z : Nat) : Int64.ofNat z <<< ((9 : Int32).toInt64 &&& 63) = Int64.ofNat (z * 512) := by
  have e := ll_sl z (k := 9) (by decide)
  rw [show (2 : Nat) ^ 9 = 512 from rfl] at e
  rw [show ((9 : Int32).toInt64 &&& 63) = Int64.ofNat 9 by decide]
  exact e
theorem js_m {B K : Nat} (hB : B < 9223372036854775808) (h1 : K ≤ 62) : (Int64.ofNat B &&& (((1 : Int64) <<< ((Int32.ofInt (K : Int)).toInt64 &&& 63)) - 1)) = Int64.ofNat (B % 2 ^ K) := by
  have p := Nat.two_pow_pos K
  rw [zz_tn (by omega) (by omega), Int.toNat_natCast, n6_63, jl_63 (by omega), n6_1, ll_sl _ (by omega), Nat.one_mul, ll_sb p, ll_mk _ _ (by omega)]
theorem js_u {B K : Nat} (hB : B < 9223372036854775808) (h1 : K ≤ 62) : ((Int64.ofNat B).toUInt64 >>> ((Int32.ofInt (K : Int)).toInt64.toUInt64 &&& Int64.toUInt64 63)).toInt64 = Int64.ofNat (B / 2 ^ K) := by
  rw [zz_tn (by omega) (by omega), Int.toNat_natCast, n6_63, jl_u63 (by omega), jl_us (by omega) (by omega)]
theorem ca2_b {G S : Nat} (hG : G < 4294967296) (hS : S < 4294967296) (g0 : G % 2147483648 ≠ 0) (s0 : S % 2147483648 ≠ 0) (le : sE2 S ≤ sE2 G) : fX8_add_b123 2 (Int64.ofNat G) (Int64.ofNat S) = Int64.ofNat (cn2 G (ng2 G) S (ng2 S)) := by
  have sG := sn2 g0
  have sS := sn2 s0
  have eA : wh2 G * 2 ^ (53 - nl (wh2 G)) = sA2 G := rfl
  have eB : wh2 S * 2 ^ (53 - nl (wh2 S)) = sA2 S := rfl
  have eE : pw2 G - ((53 - nl (wh2 G) : Nat) : Int) = sE2 G := rfl
  have eF : pw2 S - ((53 - nl (wh2 S) : Nat) : Int) = sE2 S := rfl
  rw [eA] at sG
  rw [eB] at sS
  have bE := sE2_b G
  have bF := sE2_b S
  obtain ⟨K, hK⟩ : ∃ K : Nat, sE2 G - sE2 S = (K : Int) := ⟨(sE2 G - sE2 S).toNat, by omega⟩
  have pK := Nat.two_pow_pos K
  have q := Nat.div_le_self (sA2 S * 512) (2 ^ K)
  have ob : od (sA2 S * 512 / 2 ^ K) (decide (sA2 S * 512 % 2 ^ K ≠ 0)) ≠ 0 := by
    intro z
    unfold od at z
    have dm := Nat.div_add_mod (sA2 S * 512) (2 ^ K)
    split at z
    · omega
    · next w =>
      rw [z, Nat.mul_zero, Nat.zero_add] at dm
      exact w ⟨decide_eq_true (by omega), by rw [z]⟩
  have oc : od (sA2 S * 512 / 2 ^ K) (decide (sA2 S * 512 % 2 ^ K ≠ 0)) < 4611686018427387904 := by
    by_cases k0 : K = 0
    · rw [k0, Nat.pow_zero, Nat.div_one, Nat.mod_one, show decide ((0 : Nat) ≠ 0) = false by decide, od_f]
      omega
    · have w : 2 ^ 1 ≤ 2 ^ K := Nat.pow_le_pow_right (by decide) (by omega)
      have q2 : sA2 S * 512 / 2 ^ K ≤ sA2 S * 512 / 2 ^ 1 := Nat.div_le_div_left w (by decide)
      unfold od
      split <;> omega
  have EV := ca2_ev hG hS g0 (a := sA2 G * 512) (b := od (sA2 S * 512 / 2 ^ K) (decide (sA2 S * 512 % 2 ^ K ≠ 0))) (by omega) (by omega) ob oc
  have s1 : fX8_add_b123 2 (Int64.ofNat G) (Int64.ofNat S) = fX8_add_b208 2 (Int64.ofNat G) (Int64.ofNat S) (Int64.ofNat (sA2 G * 512)) (Int64.ofNat (od (sA2 S * 512 / 2 ^ K) (decide (sA2 S * 512 % 2 ^ K ≠ 0)))) := by
    unfold fX8_add_b123
    simp only [jr_let]
    rw [cs2 hG g0, cs2 hS s0, cq2 hG g0, cq2 hS s0, eA, eB, eE, eF, zz_sb, hK, js_9, js_9]
    by_cases c1 : K ≤ 62
    · rw [if_pos (by rw [m3_62, zz_le (by omega) (by omega) (by omega) (by omega)]; omega)]
      by_cases c2 : K = 0
      · subst c2
        rw [if_pos (show Int32.ofInt ((0 : Nat) : Int) ≤ 0 by decide), Nat.pow_zero, Nat.div_one, Nat.mod_one, show decide ((0 : Nat) ≠ 0) = false by decide, od_f]
      · rw [if_neg (by rw [m3_0, zz_le (by omega) (by omega) (by omega) (by omega)]; omega), js_m (by omega) c1, js_u (by omega) c1]
        have z : (Int64.ofNat (sA2 S * 512 % 2 ^ K) = 0) = (sA2 S * 512 % 2 ^ K = 0) := by
          have := Nat.mod_le (sA2 S * 512) (2 ^ K)
          rw [n6_0, jl_eq (by omega) (by decide)]
        unfold od
        by_cases c3 : sA2 S * 512 % 2 ^ K = 0
        · rw [if_pos (by rw [z]; exact c3), show (0 : Int32).toInt64 = Int64.ofNat 0 from rfl, jl_o0, if_neg (fun w => by simp [c3] at w)]
        · rw [if_neg (by rw [z]; exact c3), show (1 : Int32).toInt64 = Int64.ofNat 1 from rfl]
          by_cases c4 : sA2 S * 512 / 2 ^ K % 2 = 0
          · rw [jl_o1 (by omega) c4, if_pos ⟨by simp [c3], c4⟩]
          · rw [jl_o2 (by omega) (by omega), if_neg (fun w => c4 w.2)]
    · have w : 2 ^ 63 ≤ 2 ^ K := Nat.pow_le_pow_right (by decide) (by omega)
      rw [if_neg (by rw [m3_62, zz_le (by omega) (by omega) (by omega) (by omega)]; omega), Nat.div_eq_of_lt (by omega), Nat.mod_eq_of_lt (by omega), decide_eq_true (by omega)]
      rfl
  have s2 : fg 31 24 (-149) 255 (ng2 G) (sA2 G * 512) (ng2 S) (od (sA2 S * 512 / 2 ^ K) (decide (sA2 S * 512 % 2 ^ K ≠ 0))) (sE2 G - 9) = fg 31 24 (-149) 255 (ng2 G) (sA2 G * 512 * 2 ^ K) (ng2 S) (sA2 S * 512) (sE2 S - 9) := by
    by_cases c1 : K ≤ 9
    · have e : sA2 S * 512 = sA2 S * 2 ^ (9 - K) * 2 ^ K := by rw [Nat.mul_assoc, ← Nat.pow_add, show 9 - K + K = 9 by omega]
      have m : sA2 S * 512 % 2 ^ K = 0 := by rw [e, Nat.mul_mod_left]
      have d : sA2 S * 512 / 2 ^ K = sA2 S * 2 ^ (9 - K) := by rw [e, Nat.mul_div_cancel _ pK]
      rw [m, d, show decide ((0 : Nat) ≠ 0) = false by decide, od_f, ← fg_ex _ _ _ _ K (by omega), ← e, show sE2 G - 9 - (K : Int) = sE2 S - 9 by omega]
    · have w : 2 ^ 10 ≤ 2 ^ K := Nat.pow_le_pow_right (by decide) (by omega)
      have q2 : sA2 S * 512 / 2 ^ K ≤ sA2 S * 512 / 2 ^ 10 := Nat.div_le_div_left w (by decide)
      have G2 := fg_odd (w := 31) (p := 24) (em := (-149)) (top := 255) (ng2 G) (a := sA2 G * 512) (ng2 S) (B := sA2 S * 512) (k := K) (sE2 S - 9) (by decide) (by omega) (by omega)
      rw [show sE2 S - 9 + (K : Int) = sE2 G - 9 by omega] at G2
      exact G2
  rw [s1, EV, s2]
  unfold cn2
  have l1 : nl (wh2 G) ≤ 53 := nl_le (by have := wh2_lt G; omega)
  have l2 : nl (wh2 S) ≤ 53 := nl_le (by have := wh2_lt S; omega)
  have X := fg_ex (w := 31) (p := 24) (em := (-149)) (top := 255) (ng2 G) (a := sA2 G * 512 * 2 ^ K) (ng2 S) (sA2 S * 512) (sE2 S - 9) (sE2 S - 9 + 3000).toNat (Nat.mul_ne_zero (by omega) (by omega))
  have x1 : sA2 G * 512 * 2 ^ K * 2 ^ (sE2 S - 9 + 3000).toNat = wh2 G * 2 ^ (pw2 G + 3000).toNat := by
    rw [← eA, show (512 : Nat) = 2 ^ 9 from rfl, Nat.mul_assoc, Nat.mul_assoc, Nat.mul_assoc, ← Nat.pow_add, ← Nat.pow_add, ← Nat.pow_add, show 53 - nl (wh2 G) + (9 + (K + (sE2 S - 9 + 3000).toNat)) = (pw2 G + 3000).toNat by omega]
  have x2 : sA2 S * 512 * 2 ^ (sE2 S - 9 + 3000).toNat = wh2 S * 2 ^ (pw2 S + 3000).toNat := by
    rw [← eB, show (512 : Nat) = 2 ^ 9 from rfl, Nat.mul_assoc, Nat.mul_assoc, ← Nat.pow_add, ← Nat.pow_add, show 53 - nl (wh2 S) + (9 + (sE2 S - 9 + 3000).toNat) = (pw2 S + 3000).toNat by omega]
  rw [x1, x2, show sE2 S - 9 - ((sE2 S - 9 + 3000).toNat : Int) = -3000 by omega] at X
  rw [X]
theorem sg2_x {X : Nat} (h : X < 4294967296) : sg2 (ng2 X) + X % 2147483648 = X := by
  unfold sg2 ng2
  by_cases c : 2147483648 ≤ X
  · rw [decide_eq_true c, if_pos rfl]; omega
  · rw [decide_eq_false c, if_neg (by decide)]; omega
theorem ca2 {X Y : Nat} (hX : X < 4294967296) (hY : Y < 4294967296) (nX : so2 X ≠ 3) (nY : so2 Y ≠ 3) : fX8_add 2 (Int64.ofNat X) (Int64.ofNat Y) = Int64.ofNat (su2 X Y (ng2 Y)) := by
  have cX := so2_c X
  have cY := so2_c Y
  have nn : fX8_none 2 = Int64.ofNat 2143289344 := by decide
  have bE := sE2_b X
  have bF := sE2_b Y
  have xx := sg2_x hX
  have yy := sg2_x hY
  unfold fX8_add su2
  simp only [jr_let, cf2_zero hX, cf2_zero hY, cf2_inf hX, cf2_inf hY, bI_0, decide_eq_false_iff_not, nn, jl_eq (show X < 18446744073709551616 by omega) (show Y < 18446744073709551616 by omega)]
  rw [if_neg (show ¬ (so2 X = 3 ∨ so2 Y = 3) by omega)]
  by_cases c1 : so2 X = 2
  · rw [if_neg (show ¬ ¬ X % 2147483648 = 2139095040 by omega), if_pos c1]
    by_cases c2 : so2 Y = 2
    · rw [if_neg (show ¬ ¬ Y % 2147483648 = 2139095040 by omega)]
      by_cases c3 : X = Y
      · rw [if_pos c3, if_neg (fun z => by rw [c3] at z; simp at z)]
      · have t : (ng2 X ^^ ng2 Y) = true := by
          cases hx : ng2 X <;> cases hy : ng2 Y
          · exfalso; rw [hx] at xx; rw [hy] at yy; omega
          · rfl
          · rfl
          · exfalso; rw [hx] at xx; rw [hy] at yy; omega
        rw [if_neg c3, if_pos ⟨c2, t⟩]
    · rw [if_pos (show ¬ Y % 2147483648 = 2139095040 by omega), if_neg (fun z => c2 z.1)]
  rw [if_pos (show ¬ X % 2147483648 = 2139095040 by omega), if_neg c1]
  by_cases c2 : so2 Y = 2
  · rw [if_neg (show ¬ ¬ Y % 2147483648 = 2139095040 by omega), if_pos c2]
    congr 1
    omega
  rw [if_pos (show ¬ Y % 2147483648 = 2139095040 by omega), if_neg c2]
  unfold fX8_add_b61 fX8_add_b99 fX8_add_b111
  simp only [jr_let, cf2_zero hX, cf2_zero hY, bI_0, decide_eq_false_iff_not]
  by_cases c3 : so2 X = 1
  · rw [if_neg (show ¬ ¬ X % 2147483648 = 0 by omega), if_pos c3]
    by_cases c4 : so2 Y = 1
    · rw [if_neg (show ¬ ¬ Y % 2147483648 = 0 by omega), if_pos c4]
      cases hx : ng2 X <;> cases hy : ng2 Y
      · rw [hx] at xx
        rw [show X = 0 by simp [sg2] at xx; omega, show Int64.ofNat 0 = 0 from rfl, Int64.zero_and]
        rfl
      · rw [hx] at xx
        rw [show X = 0 by simp [sg2] at xx; omega, show Int64.ofNat 0 = 0 from rfl, Int64.zero_and]
        rfl
      · rw [hy] at yy
        rw [show Y = 0 by simp [sg2] at yy; omega, show Int64.ofNat 0 = 0 from rfl, Int64.and_zero]
        rfl
      · rw [hx] at xx
        rw [hy] at yy
        rw [show Y = X by omega, Int64.and_self, show X = sg2 true by omega]
        rfl
    · rw [if_pos (show ¬ Y % 2147483648 = 0 by omega), if_neg c4, if_neg (show ¬ ¬ X % 2147483648 = 0 by omega)]
      congr 1
      omega
  rw [if_pos (show ¬ X % 2147483648 = 0 by omega), if_neg c3, if_pos (show ¬ X % 2147483648 = 0 by omega)]
  by_cases c4 : so2 Y = 1
  · rw [if_neg (show ¬ ¬ Y % 2147483648 = 0 by omega), if_pos c4]
  rw [if_pos (show ¬ Y % 2147483648 = 0 by omega), if_neg c4]
  have x0 : X % 2147483648 ≠ 0 := by omega
  have y0 : Y % 2147483648 ≠ 0 := by omega
  have eE : pw2 X - ((53 - nl (wh2 X) : Nat) : Int) = sE2 X := rfl
  have eF : pw2 Y - ((53 - nl (wh2 Y) : Nat) : Int) = sE2 Y := rfl
  rw [cq2 hX x0, cq2 hY y0, eE, eF]
  by_cases c5 : sE2 X < sE2 Y
  · rw [if_pos (by rw [zz_lt (by omega) (by omega) (by omega) (by omega)]; exact c5), if_pos trivial, if_pos trivial, ca2_b hY hX y0 x0 (by omega)]
    unfold cn2
    rw [fg_sw]
  · rw [if_neg (by rw [zz_lt (by omega) (by omega) (by omega) (by omega)]; exact c5), if_neg (show ¬ (1 : Int32) = 0 by decide), if_neg (show ¬ (1 : Int32) = 0 by decide), ca2_b hX hY x0 y0 (by omega)]
theorem ca3_b {G S : Nat} (hG : G < 18446744073709551616) (hS : S < 18446744073709551616) (g0 : G % 9223372036854775808 ≠ 0) (s0 : S % 9223372036854775808 ≠ 0) (le : sE3 S ≤ sE3 G) : fX8_add_b123 3 (Int64.ofNat G) (Int64.ofNat S) = Int64.ofNat (cn3 G (ng3 G) S (ng3 S)) := by
  have sG := sn3 g0
  have sS := sn3 s0
  have eA : wh3 G * 2 ^ (53 - nl (wh3 G)) = sA3 G := rfl
  have eB : wh3 S * 2 ^ (53 - nl (wh3 S)) = sA3 S := rfl
  have eE : pw3 G - ((53 - nl (wh3 G) : Nat) : Int) = sE3 G := rfl
  have eF : pw3 S - ((53 - nl (wh3 S) : Nat) : Int) = sE3 S := rfl
  rw [eA] at sG
  rw [eB] at sS
  have bE := sE3_b G
  have bF := sE3_b S
  obtain ⟨K, hK⟩ : ∃ K : Nat, sE3 G - sE3 S = (K : Int) := ⟨(sE3 G - sE3 S).toNat, by omega⟩
  have pK := Nat.two_pow_pos K
  have q := Nat.div_le_self (sA3 S * 512) (2 ^ K)
  have ob : od (sA3 S * 512 / 2 ^ K) (decide (sA3 S * 512 % 2 ^ K ≠ 0)) ≠ 0 := by
    intro z
    unfold od at z
    have dm := Nat.div_add_mod (sA3 S * 512) (2 ^ K)
    split at z
    · omega
    · next w =>
      rw [z, Nat.mul_zero, Nat.zero_add] at dm
      exact w ⟨decide_eq_true (by omega), by rw [z]⟩
  have oc : od (sA3 S * 512 / 2 ^ K) (decide (sA3 S * 512 % 2 ^ K ≠ 0)) < 4611686018427387904 := by
    by_cases k0 : K = 0
    · rw [k0, Nat.pow_zero, Nat.div_one, Nat.mod_one, show decide ((0 : Nat) ≠ 0) = false by decide, od_f]
      omega
    · have w : 2 ^ 1 ≤ 2 ^ K := Nat.pow_le_pow_right (by decide) (by omega)
      have q2 : sA3 S * 512 / 2 ^ K ≤ sA3 S * 512 / 2 ^ 1 := Nat.div_le_div_left w (by decide)
      unfold od
      split <;> omega
  have EV := ca3_ev hG hS g0 (a := sA3 G * 512) (b := od (sA3 S * 512 / 2 ^ K) (decide (sA3 S * 512 % 2 ^ K ≠ 0))) (by omega) (by omega) ob oc
  have s1 : fX8_add_b123 3 (Int64.ofNat G) (Int64.ofNat S) = fX8_add_b208 3 (Int64.ofNat G) (Int64.ofNat S) (Int64.ofNat (sA3 G * 512)) (Int64.ofNat (od (sA3 S * 512 / 2 ^ K) (decide (sA3 S * 512 % 2 ^ K ≠ 0)))) := by
    unfold fX8_add_b123
    simp only [jr_let]
    rw [cs3 hG g0, cs3 hS s0, cq3 hG g0, cq3 hS s0, eA, eB, eE, eF, zz_sb, hK, js_9, js_9]
    by_cases c1 : K ≤ 62
    · rw [if_pos (by rw [m3_62, zz_le (by omega) (by omega) (by omega) (by omega)]; omega)]
      by_cases c2 : K = 0
      · subst c2
        rw [if_pos (show Int32.ofInt ((0 : Nat) : Int) ≤ 0 by decide), Nat.pow_zero, Nat.div_one, Nat.mod_one, show decide ((0 : Nat) ≠ 0) = false by decide, od_f]
      · rw [if_neg (by rw [m3_0, zz_le (by omega) (by omega) (by omega) (by omega)]; omega), js_m (by omega) c1, js_u (by omega) c1]
        have z : (Int64.ofNat (sA3 S * 512 % 2 ^ K) = 0) = (sA3 S * 512 % 2 ^ K = 0) := by
          have := Nat.mod_le (sA3 S * 512) (2 ^ K)
          rw [n6_0, jl_eq (by omega) (by decide)]
        unfold od
        by_cases c3 : sA3 S * 512 % 2 ^ K = 0
        · rw [if_pos (by rw [z]; exact c3), show (0 : Int32).toInt64 = Int64.ofNat 0 from rfl, jl_o0, if_neg (fun w => by simp [c3] at w)]
        · rw [if_neg (by rw [z]; exact c3), show (1 : Int32).toInt64 = Int64.ofNat 1 from rfl]
          by_cases c4 : sA3 S * 512 / 2 ^ K % 2 = 0
          · rw [jl_o1 (by omega) c4, if_pos ⟨by simp [c3], c4⟩]
          · rw [jl_o2 (by omega) (by omega), if_neg (fun w => c4 w.2)]
    · have w : 2 ^ 63 ≤ 2 ^ K := Nat.pow_le_pow_right (by decide) (by omega)
      rw [if_neg (by rw [m3_62, zz_le (by omega) (by omega) (by omega) (by omega)]; omega), Nat.div_eq_of_lt (by omega), Nat.mod_eq_of_lt (by omega), decide_eq_true (by omega)]
      rfl
  have s2 : fg 63 53 (-1074) 2047 (ng3 G) (sA3 G * 512) (ng3 S) (od (sA3 S * 512 / 2 ^ K) (decide (sA3 S * 512 % 2 ^ K ≠ 0))) (sE3 G - 9) = fg 63 53 (-1074) 2047 (ng3 G) (sA3 G * 512 * 2 ^ K) (ng3 S) (sA3 S * 512) (sE3 S - 9) := by
    by_cases c1 : K ≤ 9
    · have e : sA3 S * 512 = sA3 S * 2 ^ (9 - K) * 2 ^ K := by rw [Nat.mul_assoc, ← Nat.pow_add, show 9 - K + K = 9 by omega]
      have m : sA3 S * 512 % 2 ^ K = 0 := by rw [e, Nat.mul_mod_left]
      have d : sA3 S * 512 / 2 ^ K = sA3 S * 2 ^ (9 - K) := by rw [e, Nat.mul_div_cancel _ pK]
      rw [m, d, show decide ((0 : Nat) ≠ 0) = false by decide, od_f, ← fg_ex _ _ _ _ K (by omega), ← e, show sE3 G - 9 - (K : Int) = sE3 S - 9 by omega]
    · have w : 2 ^ 10 ≤ 2 ^ K := Nat.pow_le_pow_right (by decide) (by omega)
      have q2 : sA3 S * 512 / 2 ^ K ≤ sA3 S * 512 / 2 ^ 10 := Nat.div_le_div_left w (by decide)
      have G2 := fg_odd (w := 63) (p := 53) (em := (-1074)) (top := 2047) (ng3 G) (a := sA3 G * 512) (ng3 S) (B := sA3 S * 512) (k := K) (sE3 S - 9) (by decide) (by omega) (by omega)
      rw [show sE3 S - 9 + (K : Int) = sE3 G - 9 by omega] at G2
      exact G2
  rw [s1, EV, s2]
  unfold cn3
  have l1 : nl (wh3 G) ≤ 53 := nl_le (by have := wh3_lt G; omega)
  have l2 : nl (wh3 S) ≤ 53 := nl_le (by have := wh3_lt S; omega)
  have X := fg_ex (w := 63) (p := 53) (em := (-1074)) (top := 2047) (ng3 G) (a := sA3 G * 512 * 2 ^ K) (ng3 S) (sA3 S * 512) (sE3 S - 9) (sE3 S - 9 + 3000).toNat (Nat.mul_ne_zero (by omega) (by omega))
  have x1 : sA3 G * 512 * 2 ^ K * 2 ^ (sE3 S - 9 + 3000).toNat = wh3 G * 2 ^ (pw3 G + 3000).toNat := by
    rw [← eA, show (512 : Nat) = 2 ^ 9 from rfl, Nat.mul_assoc, Nat.mul_assoc, Nat.mul_assoc, ← Nat.pow_add, ← Nat.pow_add, ← Nat.pow_add, show 53 - nl (wh3 G) + (9 + (K + (sE3 S - 9 + 3000).toNat)) = (pw3 G + 3000).toNat by omega]
  have x2 : sA3 S * 512 * 2 ^ (sE3 S - 9 + 3000).toNat = wh3 S * 2 ^ (pw3 S + 3000).toNat := by
    rw [← eB, show (512 : Nat) = 2 ^ 9 from rfl, Nat.mul_assoc, Nat.mul_assoc, ← Nat.pow_add, ← Nat.pow_add, show 53 - nl (wh3 S) + (9 + (sE3 S - 9 + 3000).toNat) = (pw3 S + 3000).toNat by omega]
  rw [x1, x2, show sE3 S - 9 - ((sE3 S - 9 + 3000).toNat : Int) = -3000 by omega] at X
  rw [X]
theorem sg3_x {X : Nat} (h : X < 18446744073709551616) : sg3 (ng3 X) + X % 9223372036854775808 = X := by
  unfold sg3 ng3
  by_cases c : 9223372036854775808 ≤ X
  · rw [decide_eq_true c, if_pos rfl]; omega
  · rw [decide_eq_false c, if_neg (by decide)]; omega
theorem ca3 {X Y : Nat} (hX : X < 18446744073709551616) (hY : Y < 18446744073709551616) (nX : so3 X ≠ 3) (nY : so3 Y ≠ 3) : fX8_add 3 (Int64.ofNat X) (Int64.ofNat Y) = Int64.ofNat (su3 X Y (ng3 Y)) := by
  have cX := so3_c X
  have cY := so3_c Y
  have nn : fX8_none 3 = Int64.ofNat 9221120237041090560 := by decide
  have bE := sE3_b X
  have bF := sE3_b Y
  have xx := sg3_x hX
  have yy := sg3_x hY
  unfold fX8_add su3
  simp only [jr_let, cf3_zero hX, cf3_zero hY, cf3_inf hX, cf3_inf hY, bI_0, decide_eq_false_iff_not, nn, jl_eq (show X < 18446744073709551616 by omega) (show Y < 18446744073709551616 by omega)]
  rw [if_neg (show ¬ (so3 X = 3 ∨ so3 Y = 3) by omega)]
  by_cases c1 : so3 X = 2
  · rw [if_neg (show ¬ ¬ X % 9223372036854775808 = 9218868437227405312 by omega), if_pos c1]
    by_cases c2 : so3 Y = 2
    · rw [if_neg (show ¬ ¬ Y % 9223372036854775808 = 9218868437227405312 by omega)]
      by_cases c3 : X = Y
      · rw [if_pos c3, if_neg (fun z => by rw [c3] at z; simp at z)]
      · have t : (ng3 X ^^ ng3 Y) = true := by
          cases hx : ng3 X <;> cases hy : ng3 Y
          · exfalso; rw [hx] at xx; rw [hy] at yy; omega
          · rfl
          · rfl
          · exfalso; rw [hx] at xx; rw [hy] at yy; omega
        rw [if_neg c3, if_pos ⟨c2, t⟩]
    · rw [if_pos (show ¬ Y % 9223372036854775808 = 9218868437227405312 by omega), if_neg (fun z => c2 z.1)]
  rw [if_pos (show ¬ X % 9223372036854775808 = 9218868437227405312 by omega), if_neg c1]
  by_cases c2 : so3 Y = 2
  · rw [if_neg (show ¬ ¬ Y % 9223372036854775808 = 9218868437227405312 by omega), if_pos c2]
    congr 1
    omega
  rw [if_pos (show ¬ Y % 9223372036854775808 = 9218868437227405312 by omega), if_neg c2]
  unfold fX8_add_b61 fX8_add_b99 fX8_add_b111
  simp only [jr_let, cf3_zero hX, cf3_zero hY, bI_0, decide_eq_false_iff_not]
  by_cases c3 : so3 X = 1
  · rw [if_neg (show ¬ ¬ X % 9223372036854775808 = 0 by omega), if_pos c3]
    by_cases c4 : so3 Y = 1
    · rw [if_neg (show ¬ ¬ Y % 9223372036854775808 = 0 by omega), if_pos c4]
      cases hx : ng3 X <;> cases hy : ng3 Y
      · rw [hx] at xx
        rw [show X = 0 by simp [sg3] at xx; omega, show Int64.ofNat 0 = 0 from rfl, Int64.zero_and]
        rfl
      · rw [hx] at xx
        rw [show X = 0 by simp [sg3] at xx; omega, show Int64.ofNat 0 = 0 from rfl, Int64.zero_and]
        rfl
      · rw [hy] at yy
        rw [show Y = 0 by simp [sg3] at yy; omega, show Int64.ofNat 0 = 0 from rfl, Int64.and_zero]
        rfl
      · rw [hx] at xx
        rw [hy] at yy
        rw [show Y = X by omega, Int64.and_self, show X = sg3 true by omega]
        rfl
    · rw [if_pos (show ¬ Y % 9223372036854775808 = 0 by omega), if_neg c4, if_neg (show ¬ ¬ X % 9223372036854775808 = 0 by omega)]
      congr 1
      omega
  rw [if_pos (show ¬ X % 9223372036854775808 = 0 by omega), if_neg c3, if_pos (show ¬ X % 9223372036854775808 = 0 by omega)]
  by_cases c4 : so3 Y = 1
  · rw [if_neg (show ¬ ¬ Y % 9223372036854775808 = 0 by omega), if_pos c4]
  rw [if_pos (show ¬ Y % 9223372036854775808 = 0 by omega), if_neg c4]
  have x0 : X % 9223372036854775808 ≠ 0 := by omega
  have y0 : Y % 9223372036854775808 ≠ 0 := by omega
  have eE : pw3 X - ((53 - nl (wh3 X) : Nat) : Int) = sE3 X := rfl
  have eF : pw3 Y - ((53 - nl (wh3 Y) : Nat) : Int) = sE3 Y := rfl
  rw [cq3 hX x0, cq3 hY y0, eE, eF]
  by_cases c5 : sE3 X < sE3 Y
  · rw [if_pos (by rw [zz_lt (by omega) (by omega) (by omega) (by omega)]; exact c5), if_pos trivial, if_pos trivial, ca3_b hY hX y0 x0 (by omega)]
    unfold cn3
    rw [fg_sw]
  · rw [if_neg (by rw [zz_lt (by omega) (by omega) (by omega) (by omega)]; exact c5), if_neg (show ¬ (1 : Int32) = 0 by decide), if_neg (show ¬ (1 : Int32) = 0 by decide), ca3_b hX hY x0 y0 (by omega)]
