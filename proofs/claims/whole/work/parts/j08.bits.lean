/-! NUMBERS: floating values, what their bits say -/
theorem jl_top0 {k a : Nat} (hk : k ≤ 63) (ha : a < 2 ^ k) : Int64.ofNat a &&& Int64.ofNat (2 ^ k) = 0 := by
  have e : Int64.ofNat a = Int64.ofNat a &&& Int64.ofNat (2 ^ k - 1) := by rw [ll_mk a k hk, Nat.mod_eq_of_lt ha]
  have z : Int64.ofNat (2 ^ k - 1) &&& Int64.ofNat (2 ^ k) = 0 := by
    have h : ∀ k : Fin 64, Int64.ofNat (2 ^ k.val - 1) &&& Int64.ofNat (2 ^ k.val) = 0 := by decide +kernel
    exact h ⟨k, by omega⟩
  rw [e, Int64.and_assoc, z, Int64.and_zero]
theorem jl_top1 {k a : Nat} (hk : k ≤ 63) (ha : a < 2 ^ k) : Int64.ofNat (2 ^ k + a) &&& Int64.ofNat (2 ^ k) = Int64.ofNat (2 ^ k) := by
  have pk : 2 ^ k ≤ 2 ^ 63 := Nat.pow_le_pow_right (by decide) hk
  have o := jl_o (c := 1) ha (by omega)
  rw [Nat.one_mul] at o
  have e : Int64.ofNat a &&& Int64.ofNat (2 ^ k) = 0 := jl_top0 hk ha
  rw [← o]
  apply Int64.toBitVec_inj.mp
  have e2 := congrArg Int64.toBitVec e
  rw [Int64.toBitVec_and] at e2 ⊢
  rw [Int64.toBitVec_or, BitVec.and_comm, BitVec.and_or_distrib_left, BitVec.and_self, BitVec.and_comm _ (Int64.ofNat a).toBitVec, e2]
  exact BitVec.or_zero
theorem jl_m32 {X : Nat} (h : X < 4294967296) : Int64.ofNat X &&& (-2147483649) = Int64.ofNat (X % 2147483648) := by
  have e := ll_mk X 32 (by decide)
  rw [Nat.mod_eq_of_lt (show X < 2 ^ 32 by omega)] at e
  have z : Int64.ofNat (2 ^ 32 - 1) &&& (-2147483649) = Int64.ofNat (2 ^ 31 - 1) := by decide +kernel
  rw [← e, Int64.and_assoc, z, ll_mk X 31 (by decide)]
theorem jl_m63 (X : Nat) : Int64.ofNat X &&& 9223372036854775807 = Int64.ofNat (X % 9223372036854775808) := ll_mk X 63 (by decide)
theorem jl_sar {X k : Nat} (h1 : 9223372036854775808 ≤ X) (h2 : X < 18446744073709551616) (hk : k < 64) : (Int64.ofNat X >>> Int64.ofNat k).toInt = ((X : Int) - 18446744073709551616) / ((2 ^ k : Nat) : Int) := by
  rw [← Int64.toInt_toBitVec, Int64.toBitVec_shiftRight, ll_sm ⟨k, hk⟩, BitVec.sshiftRight_eq', BitVec.toInt_sshiftRight, BitVec.toInt_eq_toNat_cond, jl_tn h2, if_neg (by omega), BitVec.toNat_ofNat, Nat.mod_eq_of_lt (show k < 2 ^ 64 by omega), Int.shiftRight_eq_div_pow]
  rfl
theorem jl_sar52 {X : Nat} (h1 : 9223372036854775808 ≤ X) (h2 : X < 18446744073709551616) : Int64.ofNat X >>> Int64.ofNat 52 = Int64.ofNat (X / 4503599627370496 + 18446744073709547520) := by
  apply Int64.toInt.inj
  have n : ¬ 2 * (X / 4503599627370496 + 18446744073709547520) < 2 ^ 64 := by omega
  rw [jl_sar h1 h2 (by decide), ← Int64.toInt_toBitVec (Int64.ofNat (X / 4503599627370496 + 18446744073709547520)), BitVec.toInt_eq_toNat_cond, jl_tn (by omega), if_neg n]
  omega
theorem jl_sar63 {X : Nat} (h1 : 9223372036854775808 ≤ X) (h2 : X < 18446744073709551616) : Int64.ofNat X >>> Int64.ofNat 63 = Int64.ofNat 18446744073709551615 := by
  apply Int64.toInt.inj
  rw [jl_sar h1 h2 (by decide), show (Int64.ofNat 18446744073709551615).toInt = -1 by decide]
  omega
def ex2 (X : Nat) : Nat := X % 2147483648 / 8388608
def fr2 (X : Nat) : Nat := X % 8388608
def ng2 (X : Nat) : Bool := decide (2147483648 ≤ X)
def wh2 (X : Nat) : Nat := if ex2 X = 0 then fr2 X else fr2 X + 8388608
def pw2 (X : Nat) : Int := (if ex2 X = 0 then 1 else (ex2 X : Int)) + (-149) - 1
def so2 (X : Nat) : Nat := if X % 2147483648 = 0 then 1 else if X % 2147483648 < 2139095040 then 0 else if X % 2147483648 = 2139095040 then 2 else 3
theorem wh2_lt (X : Nat) : wh2 X < 16777216 := by
  unfold wh2 fr2
  split <;> omega
theorem wh2_0 {X : Nat} (h : X % 2147483648 ≠ 0) : wh2 X ≠ 0 := by
  unfold wh2 ex2 fr2
  split <;> omega
theorem pw2_b (X : Nat) : (-149) ≤ pw2 X ∧ pw2 X ≤ 1000 := by
  unfold pw2 ex2
  split <;> omega
def ex3 (X : Nat) : Nat := X % 9223372036854775808 / 4503599627370496
def fr3 (X : Nat) : Nat := X % 4503599627370496
def ng3 (X : Nat) : Bool := decide (9223372036854775808 ≤ X)
def wh3 (X : Nat) : Nat := if ex3 X = 0 then fr3 X else fr3 X + 4503599627370496
def pw3 (X : Nat) : Int := (if ex3 X = 0 then 1 else (ex3 X : Int)) + (-1074) - 1
def so3 (X : Nat) : Nat := if X % 9223372036854775808 = 0 then 1 else if X % 9223372036854775808 < 9218868437227405312 then 0 else if X % 9223372036854775808 = 9218868437227405312 then 2 else 3
theorem wh3_lt (X : Nat) : wh3 X < 9007199254740992 := by
  unfold wh3 fr3
  split <;> omega
theorem wh3_0 {X : Nat} (h : X % 9223372036854775808 ≠ 0) : wh3 X ≠ 0 := by
  unfold wh3 ex3 fr3
  split <;> omega
theorem pw3_b (X : Nat) : (-1074) ≤ pw3 X ∧ pw3 X ≤ 1000 := by
  unfold pw3 ex3
  split <;> omega
theorem cf2_none {X : Nat} (h : X < 4294967296) : fX8_isNone 2 (Int64.ofNat X) = bI (decide (2139095040 < X % 2147483648)) := by
  unfold fX8_isNone
  rw [if_pos rfl, jl_m32 h, n6_2139095040]
  by_cases c : X % 2147483648 ≤ 2139095040
  · rw [if_pos (by rw [ll_le (by omega) (by decide)]; exact c), decide_eq_false (by omega)]; rfl
  · rw [if_neg (by rw [ll_le (by omega) (by decide)]; exact c), decide_eq_true (by omega)]; rfl
theorem cf3_none {X : Nat} (h : X < 18446744073709551616) : fX8_isNone 3 (Int64.ofNat X) = bI (decide (9218868437227405312 < X % 9223372036854775808)) := by
  unfold fX8_isNone
  rw [if_neg (by decide), jl_m63, n6_9218868437227405312]
  by_cases c : X % 9223372036854775808 ≤ 9218868437227405312
  · rw [if_pos (by rw [ll_le (by omega) (by decide)]; exact c), decide_eq_false (by omega)]; rfl
  · rw [if_neg (by rw [ll_le (by omega) (by decide)]; exact c), decide_eq_true (by omega)]; rfl
theorem cf2_inf {X : Nat} (h : X < 4294967296) : fX8_isInfinite 2 (Int64.ofNat X) = bI (decide (X % 2147483648 = 2139095040)) := by
  unfold fX8_isInfinite
  rw [if_pos rfl, jl_m32 h, n6_2139095040]
  by_cases c : X % 2147483648 = 2139095040
  · rw [if_pos (by rw [ll_eq (by omega) (by decide)]; exact c), decide_eq_true c]; rfl
  · rw [if_neg (by rw [ll_eq (by omega) (by decide)]; exact c), decide_eq_false c]; rfl
theorem cf3_inf {X : Nat} (h : X < 18446744073709551616) : fX8_isInfinite 3 (Int64.ofNat X) = bI (decide (X % 9223372036854775808 = 9218868437227405312)) := by
  unfold fX8_isInfinite
  rw [if_neg (by decide), jl_m63, n6_9218868437227405312]
  by_cases c : X % 9223372036854775808 = 9218868437227405312
  · rw [if_pos (by rw [ll_eq (by omega) (by decide)]; exact c), decide_eq_true c]; rfl
  · rw [if_neg (by rw [ll_eq (by omega) (by decide)]; exact c), decide_eq_false c]; rfl
theorem cf2_zero {X : Nat} (h : X < 4294967296) : fX8_isZero 2 (Int64.ofNat X) = bI (decide (X % 2147483648 = 0)) := by
  unfold fX8_isZero
  rw [if_pos rfl, jl_m32 h, n6_0]
  by_cases c : X % 2147483648 = 0
  · rw [if_pos (by rw [ll_eq (by omega) (by decide)]; exact c), decide_eq_true c]; rfl
  · rw [if_neg (by rw [ll_eq (by omega) (by decide)]; exact c), decide_eq_false c]; rfl
theorem cf3_zero {X : Nat} (h : X < 18446744073709551616) : fX8_isZero 3 (Int64.ofNat X) = bI (decide (X % 9223372036854775808 = 0)) := by
  unfold fX8_isZero
  rw [if_neg (by decide), jl_m63, n6_0]
  by_cases c : X % 9223372036854775808 = 0
  · rw [if_pos (by rw [ll_eq (by omega) (by decide)]; exact c), decide_eq_true c]; rfl
  · rw [if_neg (by rw [ll_eq (by omega) (by decide)]; exact c), decide_eq_false c]; rfl
theorem jl_sg2 {X : Nat} (h : X < 4294967296) : (Int64.ofNat X &&& 2147483648 = 0) = (X < 2147483648) := by
  rw [n6_2147483648]
  by_cases c : X < 2147483648
  · exact propext ⟨fun _ => c, fun _ => jl_top0 (k := 31) (by decide) c⟩
  · have e := jl_top1 (k := 31) (a := X - 2147483648) (by decide) (by omega)
    rw [show 2 ^ 31 + (X - 2147483648) = X by omega] at e
    exact propext ⟨fun z => absurd (e.symm.trans z) (by decide), fun z => absurd z c⟩
theorem jl_sg3 {X : Nat} (h : X < 18446744073709551616) : (Int64.ofNat X &&& (-9223372036854775808) = 0) = (X < 9223372036854775808) := by
  rw [show (-9223372036854775808 : Int64) = Int64.ofNat (2 ^ 63) by decide]
  by_cases c : X < 9223372036854775808
  · exact propext ⟨fun _ => c, fun _ => jl_top0 (k := 63) (by decide) c⟩
  · have e := jl_top1 (k := 63) (a := X - 9223372036854775808) (by decide) (by omega)
    rw [show 2 ^ 63 + (X - 9223372036854775808) = X by omega] at e
    exact propext ⟨fun z => absurd (e.symm.trans z) (by decide), fun z => absurd z c⟩
theorem cf2_minus {X : Nat} (h : X < 4294967296) : fX8_isMinus 2 (Int64.ofNat X) = bI (ng2 X) := by
  unfold fX8_isMinus ng2
  rw [if_pos rfl]
  by_cases c : X < 2147483648
  · rw [if_pos (by rw [jl_sg2 h]; exact c), decide_eq_false (by omega)]; rfl
  · rw [if_neg (by rw [jl_sg2 h]; exact c), decide_eq_true (by omega)]; rfl
theorem cf3_minus {X : Nat} (h : X < 18446744073709551616) : fX8_isMinus 3 (Int64.ofNat X) = bI (ng3 X) := by
  unfold fX8_isMinus ng3
  rw [if_neg (by decide)]
  by_cases c : X < 9223372036854775808
  · rw [if_pos (by rw [jl_sg3 h]; exact c), decide_eq_false (by omega)]; rfl
  · rw [if_neg (by rw [jl_sg3 h]; exact c), decide_eq_true (by omega)]; rfl
