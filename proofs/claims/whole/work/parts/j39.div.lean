/-! NUMBERS: quotients and remainders of whole numbers -/
theorem jl_not {c : Nat} (h : c < 18446744073709551616) : Int64.ofNat c ^^^ (-1) = Int64.ofNat (18446744073709551615 - c) := by
  apply Int64.toBitVec_inj.mp
  show BitVec.ofNat 64 c ^^^ BitVec.allOnes 64 = BitVec.ofNat 64 (18446744073709551615 - c)
  rw [BitVec.xor_allOnes]
  apply BitVec.eq_of_toNat_eq
  rw [BitVec.toNat_not, BitVec.toNat_ofNat, BitVec.toNat_ofNat]
  omega
/-- a difference that may wrap -/
theorem jl_ti {X : Nat} (h1 : 9223372036854775808 ≤ X) (h2 : X < 18446744073709551616) : (Int64.ofNat X).toInt = (X : Int) - 18446744073709551616 := by
  show (BitVec.ofNat 64 X).toInt = _
  rw [BitVec.toInt_eq_toNat_cond, BitVec.toNat_ofNat, Nat.mod_eq_of_lt (show X < 2 ^ 64 by omega), if_neg (by omega)]
  rfl
theorem jl_sbw {X Y : Nat} (hX : X < 18446744073709551616) (hY : Y < 18446744073709551616) : Int64.ofNat X - Int64.ofNat Y = Int64.ofNat (if Y ≤ X then X - Y else X + 18446744073709551616 - Y) := by
  split
  · next h => exact ll_sb h
  · next h =>
    apply Int64.toBitVec_inj.mp
    apply BitVec.eq_of_toNat_eq
    rw [Int64.toBitVec_sub, BitVec.toNat_sub]
    show (2 ^ 64 - (BitVec.ofNat 64 Y).toNat + (BitVec.ofNat 64 X).toNat) % 2 ^ 64 = (BitVec.ofNat 64 (X + 18446744073709551616 - Y)).toNat
    rw [BitVec.toNat_ofNat, BitVec.toNat_ofNat, BitVec.toNat_ofNat]
    omega
theorem jl_u1 (x : Int64) : (x.toUInt64 >>> ((1 : Int32).toInt64.toUInt64 &&& Int64.toUInt64 63)).toInt64 = (x.toUInt64 >>> (Int64.ofNat 1).toUInt64).toInt64 := rfl
theorem jl_ut {c : Nat} (h : c < 18446744073709551616) : ((Int64.ofNat c).toUInt64 >>> ((63 : Int32).toInt64.toUInt64 &&& Int64.toUInt64 63)).toInt64 = Int64.ofNat (c / 9223372036854775808) := jl_us (k := 63) h (by decide)
theorem jl_st {c : Nat} (h : c < 18446744073709551616) : Int64.ofNat c >>> ((63 : Int32).toInt64 &&& 63) = Int64.ofNat (if 9223372036854775808 ≤ c then 18446744073709551615 else 0) := by
  show Int64.ofNat c >>> Int64.ofNat 63 = _
  split
  · next q => exact jl_sar63 q h
  · next q => rw [ll_sr (by omega) (by decide), Nat.div_eq_of_lt (by omega)]
theorem jl_ones (y : Int64) : Int64.ofNat 18446744073709551615 &&& y = y := by
  apply Int64.toBitVec_inj.mp
  show BitVec.allOnes 64 &&& y.toBitVec = y.toBitVec
  exact BitVec.allOnes_and
theorem jl_zer (y : Int64) : Int64.ofNat 0 &&& y = Int64.ofNat 0 := Int64.zero_and
theorem jl_lt0 {x : Nat} (h : x < 18446744073709551616) : (Int64.ofNat x < 0) = (9223372036854775808 ≤ x) := by
  by_cases c : 9223372036854775808 ≤ x
  · exact propext ⟨fun _ => c, fun _ => jl_neg c h⟩
  · have p := jl_pos (by omega : x < 9223372036854775808)
    exact propext ⟨fun q => absurd (Int64.lt_of_lt_of_le q p) (Int64.lt_irrefl), fun q => absurd q c⟩
theorem jl_le0 {x : Nat} (h : x < 18446744073709551616) : (0 ≤ Int64.ofNat x) = (x < 9223372036854775808) := by
  by_cases c : 9223372036854775808 ≤ x
  · have p := jl_neg c h
    exact propext ⟨fun q => absurd (Int64.lt_of_lt_of_le p q) (Int64.lt_irrefl), fun q => absurd c (by omega)⟩
  · exact propext ⟨fun _ => by omega, fun _ => jl_pos (by omega)⟩
theorem jl_z0 {x : Nat} (h : x < 18446744073709551616) : (Int64.ofNat x = 0) = (x = 0) := jl_eq (n := 0) h (by decide)
/-- half a dividend: what its quotient and rest are -/
theorem du_h {X Y : Nat} (h0 : Y ≠ 0) : X / 2 / Y * 2 * Y ≤ X ∧ X - X / 2 / Y * 2 * Y < 2 * Y ∧ (X / Y = if Y ≤ X - X / 2 / Y * 2 * Y then X / 2 / Y * 2 + 1 else X / 2 / Y * 2) := by
  have m := Nat.mod_add_div (X / 2) Y
  have ml := Nat.mod_lt (X / 2) (Nat.pos_of_ne_zero h0)
  have e : X / 2 / Y * 2 * Y = 2 * (Y * (X / 2 / Y)) := by rw [Nat.mul_comm (X / 2 / Y) 2, Nat.mul_assoc, Nat.mul_comm (X / 2 / Y) Y]
  have b1 : X / 2 / Y * 2 * Y ≤ X := by rw [e]; omega
  have b2 : X - X / 2 / Y * 2 * Y < 2 * Y := by rw [e]; omega
  refine ⟨b1, b2, ?_⟩
  split
  · next c =>
    refine Nat.div_eq_of_lt_le ?_ ?_
    · rw [Nat.add_mul, Nat.one_mul]; omega
    · rw [Nat.add_mul, Nat.add_mul, Nat.one_mul]; omega
  · next c =>
    refine Nat.div_eq_of_lt_le b1 ?_
    rw [Nat.add_mul, Nat.one_mul]; omega
theorem du_b {X Y : Nat} (hY : Y < 18446744073709551616) (h : 9223372036854775808 ≤ Y) (hX : X < 18446744073709551616) : X / Y = if Y ≤ X then 1 else 0 := by
  split
  · refine Nat.div_eq_of_lt_le ?_ ?_ <;> omega
  · exact Nat.div_eq_of_lt (by omega)
theorem jl_q {X Y : Nat} (hX : X < 18446744073709551616) (hY : Y < 9223372036854775808) : ((Int64.ofNat X).toUInt64 >>> (Int64.ofNat 1).toUInt64).toInt64 / Int64.ofNat Y = Int64.ofNat (X / 2 / Y) := by
  rw [jl_us hX (by decide), Nat.pow_one, ll_dv (by omega) hY]
theorem ju_div {X Y : Nat} (hX : X < 18446744073709551616) (hY : Y < 18446744073709551616) (h0 : Y ≠ 0) : fJ13_divideUnsigned_f86c9 (Int64.ofNat X) (Int64.ofNat Y) = some (Int64.ofNat (X / Y)) := by
  unfold fJ13_divideUnsigned_f86c9
  simp only [jl_lt0 hY, jl_z0 hY]
  have sb := jl_sbw hX hY
  by_cases c : 9223372036854775808 ≤ Y
  · rw [if_pos c, sb, jl_not (by split <;> omega), ll_an, jl_ut (Nat.lt_of_le_of_lt Nat.and_le_left hX)]
    congr 1
    have dp := Nat.and_div_two_pow (a := X) (b := 18446744073709551615 - (if Y ≤ X then X - Y else X + 18446744073709551616 - Y)) (n := 63)
    rw [show (2 : Nat) ^ 63 = 9223372036854775808 from rfl] at dp
    rw [dp, du_b hY c hX]
    by_cases q : Y ≤ X
    · rw [if_pos q, if_pos q, show X / 9223372036854775808 = 1 by omega, show (18446744073709551615 - (X - Y)) / 9223372036854775808 = 1 by omega]
      rfl
    · rw [if_neg q, if_neg q]
      by_cases z : X < 9223372036854775808
      · rw [Nat.div_eq_of_lt z, Nat.zero_and]
      · rw [show (18446744073709551615 - (X + 18446744073709551616 - Y)) / 9223372036854775808 = 0 by omega, Nat.and_zero]
  · obtain ⟨b1, b2, b3⟩ := du_h (X := X) h0
    rw [if_neg c, if_pos h0, jl_u1, jl_q hX (by omega)]
    simp only [jr_let]
    rw [show ((1 : Int32).toInt64 &&& 63) = Int64.ofNat 1 from rfl, ll_sl _ (by decide), Nat.pow_one, ll_ml, ll_sb b1, jl_sbw (by omega) hY, jl_not (by split <;> omega), lo_or, jl_ut (by
      refine Nat.or_lt_two_pow (n := 64) (by omega) ?_
      omega), ll_ad]
    congr 2
    have dp := Nat.or_div_two_pow (a := X - X / 2 / Y * 2 * Y) (b := 18446744073709551615 - (if Y ≤ X - X / 2 / Y * 2 * Y then X - X / 2 / Y * 2 * Y - Y else X - X / 2 / Y * 2 * Y + 18446744073709551616 - Y)) (n := 63)
    rw [show (2 : Nat) ^ 63 = 9223372036854775808 from rfl] at dp
    rw [dp, b3]
    generalize X - X / 2 / Y * 2 * Y = r at *
    by_cases q : Y ≤ r
    · rw [if_pos q, if_pos q]
      have o : (18446744073709551615 - (r - Y)) / 9223372036854775808 = 1 := by omega
      rw [o]
      have z : r / 9223372036854775808 = 0 ∨ r / 9223372036854775808 = 1 := by omega
      rcases z with z | z <;> rw [z] <;> rfl
    · rw [if_neg q, if_neg q, show (18446744073709551615 - (r + 18446744073709551616 - Y)) / 9223372036854775808 = 0 by omega, show r / 9223372036854775808 = 0 by omega]
      rfl
theorem ju_rem {X Y : Nat} (hX : X < 18446744073709551616) (hY : Y < 18446744073709551616) (h0 : Y ≠ 0) : fJ13_remainderUnsigned_f86c9 (Int64.ofNat X) (Int64.ofNat Y) = some (Int64.ofNat (X % Y)) := by
  unfold fJ13_remainderUnsigned_f86c9
  simp only [jl_lt0 hY, jl_z0 hY]
  have sb := jl_sbw hX hY
  have md : X % Y = X - Y * (X / Y) := by have := Nat.mod_add_div X Y; omega
  by_cases c : 9223372036854775808 ≤ Y
  · rw [if_pos c, sb, jl_not (by split <;> omega), ll_an, jl_st (Nat.lt_of_le_of_lt Nat.and_le_left hX)]
    congr 1
    have dp := Nat.and_div_two_pow (a := X) (b := 18446744073709551615 - (if Y ≤ X then X - Y else X + 18446744073709551616 - Y)) (n := 63)
    rw [show (2 : Nat) ^ 63 = 9223372036854775808 from rfl] at dp
    rw [md, du_b hY c hX]
    by_cases q : Y ≤ X
    · rw [if_pos q] at dp
      rw [if_pos q, if_pos q, if_pos (by
        have e : (X &&& (18446744073709551615 - (X - Y))) / 9223372036854775808 = 1 := by
          rw [dp, show X / 9223372036854775808 = 1 by omega, show (18446744073709551615 - (X - Y)) / 9223372036854775808 = 1 by omega]
          rfl
        omega), jl_ones, ll_sb q, Nat.mul_one]
    · rw [if_neg q] at dp
      rw [if_neg q, if_neg q, if_neg (by
        have e : (X &&& (18446744073709551615 - (X + 18446744073709551616 - Y))) / 9223372036854775808 = 0 := by
          rw [dp]
          by_cases z : X < 9223372036854775808
          · rw [Nat.div_eq_of_lt z, Nat.zero_and]
          · rw [show (18446744073709551615 - (X + 18446744073709551616 - Y)) / 9223372036854775808 = 0 by omega, Nat.and_zero]
        omega), jl_zer, ll_sb (Nat.zero_le _), Nat.mul_zero]
  · obtain ⟨b1, b2, b3⟩ := du_h (X := X) h0
    rw [if_neg c, if_pos h0, jl_u1, jl_q hX (by omega)]
    simp only [jr_let]
    rw [show ((1 : Int32).toInt64 &&& 63) = Int64.ofNat 1 from rfl, ll_sl _ (by decide), Nat.pow_one, ll_ml, ll_sb b1, jl_sbw (by omega) hY, jl_not (by split <;> omega), jl_st (by omega)]
    congr 1
    have e2 : X % Y = if Y ≤ X - X / 2 / Y * 2 * Y then X - X / 2 / Y * 2 * Y - Y else X - X / 2 / Y * 2 * Y := by
      rw [md, b3, Nat.mul_comm]
      split
      · rw [Nat.add_mul, Nat.one_mul]; omega
      · rfl
    rw [e2]
    generalize X - X / 2 / Y * 2 * Y = r at *
    by_cases q : Y ≤ r
    · rw [if_pos q, if_pos q, if_pos (by omega), jl_ones, ll_sb q]
    · rw [if_neg q, if_neg q, if_neg (by omega), jl_zer, ll_sb (Nat.zero_le _), Nat.sub_zero]
theorem cu_q {X Y : Nat} (hX : X < 18446744073709551616) (hY : Y < 18446744073709551616) (h0 : Y ≠ 0) : fX8_quotientWithoutSign (Int64.ofNat X) (Int64.ofNat Y) = some (Int64.ofNat (X / Y)) := by
  unfold fX8_quotientWithoutSign
  simp only [jl_z0 hY, jl_le0 hY, jl_lt0 hX, jl_le0 hX]
  rw [if_neg h0]
  by_cases c : Y < 9223372036854775808
  · rw [if_pos c]
    by_cases d : 9223372036854775808 ≤ X
    · obtain ⟨b1, b2, b3⟩ := du_h (X := X) h0
      rw [if_pos d, if_pos h0, jl_u1, jl_q hX c]
      simp only [jr_let]
      rw [show ((1 : Int32).toInt64 &&& 63) = Int64.ofNat 1 from rfl, ll_sl _ (by decide), Nat.pow_one, ll_ml, ll_sb b1, show (1 : Int64) = Int64.ofNat 1 from rfl, ll_ad, b3]
      generalize X - X / 2 / Y * 2 * Y = r at *
      simp only [jl_lt0 (show r < 18446744073709551616 by omega)]
      by_cases e : 9223372036854775808 ≤ r
      · rw [if_pos e, if_pos (by omega)]
      · rw [if_neg e]
        simp only [ll_lt (show r < 9223372036854775808 by omega) c]
        by_cases f : Y ≤ r
        · rw [if_neg (by omega), if_pos f]
        · rw [if_pos (by omega), if_neg f]
    · rw [if_neg d, if_pos h0, ll_dv (by omega) c]
  · rw [if_neg c, du_b hY (by omega) hX]
    by_cases d : X < 9223372036854775808
    · rw [if_pos d, if_neg (by omega)]; rfl
    · rw [if_neg d]
      have lt : (Int64.ofNat X < Int64.ofNat Y) = (X < Y) := by
        have e1 := jl_ti (X := X) (by omega) hX
        have e2 := jl_ti (X := Y) (by omega) hY
        rw [Int64.lt_iff_toInt_lt, e1, e2]
        exact propext (by omega)
      simp only [lt]
      by_cases q : Y ≤ X
      · rw [if_neg (by omega), if_pos q]; rfl
      · rw [if_pos (by omega), if_neg q]; rfl
