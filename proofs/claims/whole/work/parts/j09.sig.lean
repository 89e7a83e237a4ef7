/-! NUMBERS: significand and scale of the class -/
theorem zz_max0 {a : Int} (h1 : 0 ≤ a) (h2 : a < 2147483648) : (if (0 : Int32) < Int32.ofInt a then Int32.ofInt a else (0 : Int32)) = Int32.ofInt a := by
  rw [m3_0]
  by_cases c : 0 < a
  · rw [if_pos (by rw [zz_lt (by omega) (by omega) (by omega) h2]; exact c)]
  · rw [if_neg (by rw [zz_lt (by omega) (by omega) (by omega) h2]; exact c), show a = 0 by omega]
theorem zz_max1 {a : Nat} (h1 : 1 ≤ a) (h2 : a < 2147483648) : (if (1 : Int32) < Int32.ofInt a then Int32.ofInt a else (1 : Int32)) = Int32.ofInt a := by
  rw [m3_1]
  by_cases c : 1 < (a : Int)
  · rw [if_pos (by rw [zz_lt (by omega) (by omega) (by omega) (by omega)]; exact c)]
  · rw [if_neg (by rw [zz_lt (by omega) (by omega) (by omega) (by omega)]; exact c), show (a : Int) = 1 by omega]
theorem cs2_m {X : Nat} (h : X < 4294967296) : Int64.ofNat X &&& ((2147483648 : Int64) ^^^ (-1)) = Int64.ofNat (X % 2147483648) := by
  rw [show ((2147483648 : Int64) ^^^ (-1)) = (-2147483649) by decide +kernel, jl_m32 h]
theorem cs2_f (X : Nat) : Int64.ofNat (X % 2147483648) &&& (((1 : Int64) <<< (((24 : Int32) - 1).toInt64 &&& 63)) - 1) = Int64.ofNat (fr2 X) := by
  rw [show (((1 : Int64) <<< (((24 : Int32) - 1).toInt64 &&& 63)) - 1) = Int64.ofNat (2 ^ 23 - 1) by decide +kernel, ll_mk _ _ (by decide)]
  unfold fr2
  congr 1
  omega
theorem cs2_e (X : Nat) : ((Int64.ofNat (X % 2147483648)).toUInt64 >>> (((24 : Int32) - 1).toInt64.toUInt64 &&& Int64.toUInt64 63)).toInt64 = Int64.ofNat (ex2 X) := by
  rw [show (((24 : Int32) - 1).toInt64.toUInt64 &&& Int64.toUInt64 63) = (Int64.ofNat 23).toUInt64 by decide +kernel, jl_us (by omega) (by decide)]
  rfl
theorem cs2_o (X : Nat) : Int64.ofNat (fr2 X) ||| ((1 : Int64) <<< (((24 : Int32) - 1).toInt64 &&& 63)) = Int64.ofNat (fr2 X + 8388608) := by
  rw [show ((1 : Int64) <<< (((24 : Int32) - 1).toInt64 &&& 63)) = Int64.ofNat (1 * 2 ^ 23) by decide +kernel, jl_oc, jl_o (by unfold fr2; omega) (by unfold fr2; omega)]
  congr 1
  omega
/-- the class's significand: up to bit 52 -/
theorem cs2 {X : Nat} (h : X < 4294967296) (h0 : X % 2147483648 ≠ 0) : fX8_significand 2 (Int64.ofNat X) = Int64.ofNat (wh2 X * 2 ^ (53 - nl (wh2 X))) := by
  have w := wh2_lt X
  have w0 := wh2_0 h0
  have l : nl (wh2 X) ≤ 53 := nl_le (by omega)
  have l1 := (nl_ge w0).1
  have lz := jn_lz6 (a := wh2 X) (by omega)
  have e : (64 - (nl (wh2 X) : Int) - 11).toNat = 53 - nl (wh2 X) := by omega
  have sh : Int64.ofNat (wh2 X) <<< (((if (0 : Int32) < fJ13_numberOfLeadingZeros_95d88 (Int64.ofNat (wh2 X)) - 11 then fJ13_numberOfLeadingZeros_95d88 (Int64.ofNat (wh2 X)) - 11 else (0 : Int32))).toInt64 &&& 63) = Int64.ofNat (wh2 X * 2 ^ (53 - nl (wh2 X))) := by
    rw [lz, m3_11, zz_sb, zz_max0 (by omega) (by omega), zz_tn (by omega) (by omega), n6_63, jl_63 (by omega), ll_sl _ (by omega), e]
  rw [← sh]
  unfold fX8_significand fX8_significand_b12 fX8_significand_b28
  simp only [eq_self, if_true, if_false, jr_let, cs2_m h, cs2_f, cs2_e, cs2_o]
  by_cases c : ex2 X = 0
  · rw [if_pos (by rw [c]; rfl), show wh2 X = fr2 X by unfold wh2; rw [if_pos c]]
  · rw [if_neg (by rw [n6_0, jl_eq (by unfold ex2; omega) (by decide)]; exact c), show wh2 X = fr2 X + 8388608 by unfold wh2; rw [if_neg c]]
/-- and what its lowest bit counts -/
theorem cq2 {X : Nat} (h : X < 4294967296) (h0 : X % 2147483648 ≠ 0) : fX8_scale 2 (Int64.ofNat X) = Int32.ofInt (pw2 X - (53 - nl (wh2 X) : Nat)) := by
  have w := wh2_lt X
  have w0 := wh2_0 h0
  have l : nl (wh2 X) ≤ 53 := nl_le (by omega)
  have l1 := (nl_ge w0).1
  have lz := jn_lz6 (a := wh2 X) (by omega)
  have xb : ex2 X < 4096 := by unfold ex2; omega
  have mx : (if (0 : Int32) < fJ13_numberOfLeadingZeros_95d88 (Int64.ofNat (wh2 X)) - 11 then fJ13_numberOfLeadingZeros_95d88 (Int64.ofNat (wh2 X)) - 11 else (0 : Int32)) = Int32.ofInt (53 - nl (wh2 X) : Nat) := by
    have ee : (64 - (nl (wh2 X) : Int) - 11) = ((53 - nl (wh2 X) : Nat) : Int) := by omega
    rw [lz, m3_11, zz_sb, zz_max0 (by omega) (by omega), ee]
  unfold fX8_scale fX8_scale_b12 fX8_scale_b28 pw2
  simp only [eq_self, if_true, if_false, jr_let, cs2_m h, cs2_f, cs2_e, cs2_o]
  rw [ll_t3, zz_n]
  by_cases c : ex2 X = 0
  · rw [if_pos c, if_pos (by rw [c]; rfl), ← show wh2 X = fr2 X by unfold wh2; rw [if_pos c]]
    rw [mx, c, if_neg (by decide), m3_1, m3_127, m3_24, zz_ad, zz_sb, zz_sb, zz_sb]
    congr 1
  · rw [if_neg c, if_neg (by rw [m3_0, zz_eq (by omega) (by omega) (by omega) (by omega)]; omega), ← show wh2 X = fr2 X + 8388608 by unfold wh2; rw [if_neg c]]
    rw [mx, zz_max1 (by omega) (by omega), m3_1, m3_127, m3_24, zz_ad, zz_sb, zz_sb, zz_sb]
    congr 1
    omega
theorem cs3_m {X : Nat} (h : X < 18446744073709551616) : Int64.ofNat X &&& (((-9223372036854775808) : Int64) ^^^ (-1)) = Int64.ofNat (X % 9223372036854775808) := by
  rw [show (((-9223372036854775808) : Int64) ^^^ (-1)) = 9223372036854775807 by decide +kernel, jl_m63]
theorem cs3_f (X : Nat) : Int64.ofNat (X % 9223372036854775808) &&& (((1 : Int64) <<< (((53 : Int32) - 1).toInt64 &&& 63)) - 1) = Int64.ofNat (fr3 X) := by
  rw [show (((1 : Int64) <<< (((53 : Int32) - 1).toInt64 &&& 63)) - 1) = Int64.ofNat (2 ^ 52 - 1) by decide +kernel, ll_mk _ _ (by decide)]
  unfold fr3
  congr 1
  omega
theorem cs3_e (X : Nat) : ((Int64.ofNat (X % 9223372036854775808)).toUInt64 >>> (((53 : Int32) - 1).toInt64.toUInt64 &&& Int64.toUInt64 63)).toInt64 = Int64.ofNat (ex3 X) := by
  rw [show (((53 : Int32) - 1).toInt64.toUInt64 &&& Int64.toUInt64 63) = (Int64.ofNat 52).toUInt64 by decide +kernel, jl_us (by omega) (by decide)]
  rfl
theorem cs3_o (X : Nat) : Int64.ofNat (fr3 X) ||| ((1 : Int64) <<< (((53 : Int32) - 1).toInt64 &&& 63)) = Int64.ofNat (fr3 X + 4503599627370496) := by
  rw [show ((1 : Int64) <<< (((53 : Int32) - 1).toInt64 &&& 63)) = Int64.ofNat (1 * 2 ^ 52) by decide +kernel, jl_oc, jl_o (by unfold fr3; omega) (by unfold fr3; omega)]
  congr 1
  omega
/-- the class's significand: up to bit 52 -/
theorem cs3 {X : Nat} (h : X < 18446744073709551616) (h0 : X % 9223372036854775808 ≠ 0) : fX8_significand 3 (Int64.ofNat X) = Int64.ofNat (wh3 X * 2 ^ (53 - nl (wh3 X))) := by
  have w := wh3_lt X
  have w0 := wh3_0 h0
  have l : nl (wh3 X) ≤ 53 := nl_le (by omega)
  have l1 := (nl_ge w0).1
  have lz := jn_lz6 (a := wh3 X) (by omega)
  have e : (64 - (nl (wh3 X) : Int) - 11).toNat = 53 - nl (wh3 X) := by omega
  have sh : Int64.ofNat (wh3 X) <<< (((if (0 : Int32) < fJ13_numberOfLeadingZeros_95d88 (Int64.ofNat (wh3 X)) - 11 then fJ13_numberOfLeadingZeros_95d88 (Int64.ofNat (wh3 X)) - 11 else (0 : Int32))).toInt64 &&& 63) = Int64.ofNat (wh3 X * 2 ^ (53 - nl (wh3 X))) := by
    rw [lz, m3_11, zz_sb, zz_max0 (by omega) (by omega), zz_tn (by omega) (by omega), n6_63, jl_63 (by omega), ll_sl _ (by omega), e]
  rw [← sh]
  unfold fX8_significand fX8_significand_b12 fX8_significand_b28
  simp only [show ((3 : Int32) = 2) = False from eq_false (by decide), if_true, if_false, jr_let, cs3_m h, cs3_f, cs3_e, cs3_o]
  by_cases c : ex3 X = 0
  · rw [if_pos (by rw [c]; rfl), show wh3 X = fr3 X by unfold wh3; rw [if_pos c]]
  · rw [if_neg (by rw [n6_0, jl_eq (by unfold ex3; omega) (by decide)]; exact c), show wh3 X = fr3 X + 4503599627370496 by unfold wh3; rw [if_neg c]]
/-- and what its lowest bit counts -/
theorem cq3 {X : Nat} (h : X < 18446744073709551616) (h0 : X % 9223372036854775808 ≠ 0) : fX8_scale 3 (Int64.ofNat X) = Int32.ofInt (pw3 X - (53 - nl (wh3 X) : Nat)) := by
  have w := wh3_lt X
  have w0 := wh3_0 h0
  have l : nl (wh3 X) ≤ 53 := nl_le (by omega)
  have l1 := (nl_ge w0).1
  have lz := jn_lz6 (a := wh3 X) (by omega)
  have xb : ex3 X < 4096 := by unfold ex3; omega
  have mx : (if (0 : Int32) < fJ13_numberOfLeadingZeros_95d88 (Int64.ofNat (wh3 X)) - 11 then fJ13_numberOfLeadingZeros_95d88 (Int64.ofNat (wh3 X)) - 11 else (0 : Int32)) = Int32.ofInt (53 - nl (wh3 X) : Nat) := by
    have ee : (64 - (nl (wh3 X) : Int) - 11) = ((53 - nl (wh3 X) : Nat) : Int) := by omega
    rw [lz, m3_11, zz_sb, zz_max0 (by omega) (by omega), ee]
  unfold fX8_scale fX8_scale_b12 fX8_scale_b28 pw3
  simp only [show ((3 : Int32) = 2) = False from eq_false (by decide), if_true, if_false, jr_let, cs3_m h, cs3_f, cs3_e, cs3_o]
  rw [ll_t3, zz_n]
  by_cases c : ex3 X = 0
  · rw [if_pos c, if_pos (by rw [c]; rfl), ← show wh3 X = fr3 X by unfold wh3; rw [if_pos c]]
    rw [mx, c, if_neg (by decide), m3_1, m3_1023, m3_53, zz_ad, zz_sb, zz_sb, zz_sb]
    congr 1
  · rw [if_neg c, if_neg (by rw [m3_0, zz_eq (by omega) (by omega) (by omega) (by omega)]; omega), ← show wh3 X = fr3 X + 4503599627370496 by unfold wh3; rw [if_neg c]]
    rw [mx, zz_max1 (by omega) (by omega), m3_1, m3_1023, m3_53, zz_ad, zz_sb, zz_sb, zz_sb]
    congr 1
    omega
