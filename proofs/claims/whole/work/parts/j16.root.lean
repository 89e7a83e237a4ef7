/-! NUMBERS: roots: digit by digit -/
def dg (m n : Nat) : Nat := if n < 30 then 0 else m / 4 ^ (n - 30) % 4
def rt (m : Nat) : Nat → Nat → Nat → Nat × Nat
  | 0, r, f => (r, f)
  | n + 1, r, f => if 4 * r + dg m (n + 1) < 4 * f + 1 then rt m n (4 * r + dg m (n + 1)) (2 * f) else rt m n (4 * r + dg m (n + 1) - (4 * f + 1)) (2 * f + 1)
def pr (m n : Nat) : Nat := if n < 29 then m * 4 ^ (29 - n) else m / 4 ^ (n - 29)
theorem dg_lt (m n : Nat) : dg m n < 4 := by
  unfold dg
  split <;> omega
theorem pr_s (m n : Nat) : pr m n = 4 * pr m (n + 1) + dg m (n + 1) := by
  unfold pr dg
  by_cases c : n < 29
  · rw [if_pos c, if_pos (show n + 1 < 30 by omega)]
    by_cases d : n + 1 < 29
    · rw [if_pos d, show 29 - n = 29 - (n + 1) + 1 by omega, Nat.pow_succ, ← Nat.mul_assoc]
      omega
    · rw [if_neg d, show n = 28 by omega]
      show m * 4 ^ 1 = 4 * (m / 4 ^ 0) + 0
      rw [Nat.pow_one, Nat.pow_zero, Nat.div_one]
      omega
  · rw [if_neg c, if_neg (show ¬ n + 1 < 29 by omega), if_neg (show ¬ n + 1 < 30 by omega), show n + 1 - 29 = n - 29 + 1 by omega, show n + 1 - 30 = n - 29 by omega, Nat.pow_succ, ← Nat.div_div_eq_div_mul]
    omega
theorem rt_inv (m : Nat) : ∀ n r f : Nat, f * f + r = pr m n → r ≤ 2 * f → (rt m n r f).2 * (rt m n r f).2 + (rt m n r f).1 = pr m 0 ∧ (rt m n r f).1 ≤ 2 * (rt m n r f).2
  | 0, r, f, h1, h2 => ⟨h1, h2⟩
  | n + 1, r, f, h1, h2 => by
    have s := pr_s m n
    have d := dg_lt m (n + 1)
    have e1 : 2 * f * (2 * f) = 4 * (f * f) := by rw [Nat.mul_mul_mul_comm]
    have e2 : (2 * f + 1) * (2 * f + 1) = 4 * (f * f) + 4 * f + 1 := by
      rw [Nat.add_mul, Nat.mul_add, e1]
      omega
    unfold rt
    by_cases c : 4 * r + dg m (n + 1) < 4 * f + 1
    · rw [if_pos c]
      exact rt_inv m n _ _ (by omega) (by omega)
    · rw [if_neg c]
      exact rt_inv m n _ _ (by omega) (by omega)
theorem rt_lt (m : Nat) : ∀ n r f k : Nat, f < 2 ^ k → (rt m n r f).2 < 2 ^ (k + n)
  | 0, r, f, k, h => h
  | n + 1, r, f, k, h => by
    have e : 2 ^ (k + 1) = 2 * 2 ^ k := by rw [Nat.pow_succ, Nat.mul_comm]
    unfold rt
    split
    · have := rt_lt m n (4 * r + dg m (n + 1)) (2 * f) (k + 1) (by omega)
      rwa [show k + 1 + n = k + (n + 1) by omega] at this
    · have := rt_lt m n (4 * r + dg m (n + 1) - (4 * f + 1)) (2 * f + 1) (k + 1) (by omega)
      rwa [show k + 1 + n = k + (n + 1) by omega] at this
theorem rt_58 {m : Nat} (h : m < 18014398509481984) : rt m 58 0 0 = rt m 56 0 0 := by
  have d1 : dg m 58 = 0 := by
    show m / 4 ^ 28 % 4 = 0
    rw [Nat.div_eq_of_lt (Nat.lt_of_lt_of_le h (by decide))]
  have d2 : dg m 57 = 0 := by
    show m / 4 ^ 27 % 4 = 0
    rw [Nat.div_eq_of_lt (Nat.lt_of_lt_of_le h (by decide))]
  rw [rt, d1, if_pos (by decide), rt, d2, if_pos (by decide)]
theorem rt_ge {m : Nat} (h : 4503599627370496 ≤ m) (h2 : m < 18014398509481984) : 36028797018963968 ≤ (rt m 56 0 0).2 := by
  have i := rt_inv m 58 0 0 (by
    show 0 = m / 4 ^ 29
    rw [Nat.div_eq_of_lt (Nat.lt_of_lt_of_le h2 (by decide))]) (Nat.le_refl _)
  rw [rt_58 h2] at i
  obtain ⟨i1, i2⟩ := i
  generalize (rt m 56 0 0).1 = r at *
  generalize (rt m 56 0 0).2 = f at *
  have p0 : pr m 0 = m * 288230376151711744 := by
    show m * 4 ^ 29 = _
    rw [show (4 : Nat) ^ 29 = 288230376151711744 from rfl]
  rw [p0] at i1
  refine Nat.le_of_not_lt fun c => ?_
  have w : f * f ≤ 36028797018963967 * 36028797018963967 := Nat.mul_le_mul (by omega) (by omega)
  omega
theorem jr_2 (z : Nat) : Int64.ofNat z <<< ((2 : Int32).toInt64 &&& 63) = Int64.ofNat (z * 4) := by
  have e := ll_sl z (k := 2) (by decide)
  rw [show (2 : Nat) ^ 2 = 4 from rfl] at e
  rw [show ((2 : Int32).toInt64 &&& 63) = Int64.ofNat 2 by decide]
  exact e
theorem jr_1 (z : Nat) : Int64.ofNat z <<< ((1 : Int32).toInt64 &&& 63) = Int64.ofNat (z * 2) := by
  have e := ll_sl z (k := 1) (by decide)
  rw [Nat.pow_one] at e
  rw [show ((1 : Int32).toInt64 &&& 63) = Int64.ofNat 1 by decide]
  exact e
theorem jr_o3 {a b : Nat} (ha : a < 4611686018427387904) (hb : b < 4) : Int64.ofNat (a * 4) ||| Int64.ofNat b = Int64.ofNat (a * 4 + b) := by
  have o := jl_o (k := 2) (c := a) (a := b) hb (by rw [show (2 : Nat) ^ 2 = 4 from rfl]; omega)
  rwa [show (2 : Nat) ^ 2 = 4 from rfl] at o
theorem jr_d {m : Nat} {n : Nat} (hm : m < 18446744073709551616) (h1 : 30 ≤ n) (h2 : n ≤ 58) : ((Int64.ofNat m).toUInt64 >>> ((2 * Int32.ofInt ((n : Int) - 30)).toInt64.toUInt64 &&& Int64.toUInt64 63)).toInt64 &&& 3 = Int64.ofNat (dg m n) := by
  rw [show (2 : Int32) = Int32.ofInt 2 from rfl, zz_ml, zz_tn (by omega) (by omega), n6_63, jl_u63 (by omega), jl_us hm (by omega), show (3 : Int64) = Int64.ofNat (2 ^ 2 - 1) by decide, ll_mk _ _ (by decide), show (2 * ((n : Int) - 30)).toNat = 2 * (n - 30) by omega, Nat.pow_mul, show (2 : Nat) ^ 2 = 4 from rfl]
  unfold dg
  rw [if_neg (by omega)]
