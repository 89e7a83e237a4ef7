/-! NUMBERS: counting bits -/
theorem mz_lead {b X : Nat} (hb : b = 32 ∨ b = 64) (hX : X < 2 ^ b) : ∀ (j n : Nat), n + j = b - nl X → pm_lim sX16_zeros (Int64.ofNat X, Int32.ofInt b, 1, Int32.ofInt n) = some (Int32.ofInt (b - nl X : Nat)) := by
  have l : nl X ≤ b := nl_le hX
  have b64 : b ≤ 64 := by omega
  have X64 : X < 18446744073709551616 := by rcases hb with rfl | rfl <;> omega
  intro j
  induction j with
  | zero =>
    intro n hn
    have e : n = b - nl X := hn
    by_cases c : nl X = 0
    · rw [e, ev_lm, aX16_zeros_0]
      unfold tX16_zeros_3
      rw [if_pos (by rw [zz_le (by omega) (by omega) (by omega) (by omega)]; omega), jr_kr]
    · have X0 : X ≠ 0 := by intro z; rw [z, nl_0] at c; exact c rfl
      have g := (nl_ge X0).2
      have lt := nl_lt X
      have e2 : 2 ^ nl X = 2 * 2 ^ (nl X - 1) := by
        have := Nat.pow_succ' (n := nl X - 1) (m := 2)
        rwa [show (nl X - 1).succ = nl X by omega] at this
      have p := Nat.two_pow_pos (nl X - 1)
      have d : X / 2 ^ (nl X - 1) = 1 := by
        have a1 : X / 2 ^ (nl X - 1) < 2 := by rw [Nat.div_lt_iff_lt_mul p]; omega
        have a2 : 1 ≤ X / 2 ^ (nl X - 1) := by rw [Nat.le_div_iff_mul_le p]; omega
        omega
      have sh : ((Int64.ofNat X).toUInt64 >>> (((Int32.ofInt (b : Int) - 1) - Int32.ofInt (n : Int)).toInt64.toUInt64 &&& Int64.toUInt64 63)).toInt64 = Int64.ofNat 1 := by
        rw [m3_1, zz_sb, zz_sb, zz_tn (by omega) (by omega), n6_63, jl_u63 (by omega), jl_us X64 (by omega), show ((b : Int) - 1 - n).toNat = nl X - 1 by omega, d]
      rw [ev_lm, aX16_zeros_0]
      unfold tX16_zeros_3
      rw [if_neg (by rw [zz_le (by omega) (by omega) (by omega) (by omega)]; omega), if_neg (show ¬ (1 : Int32) = 0 by decide), sh, if_neg (show ¬ Int64.ofNat 1 &&& 1 = 0 by decide), jr_kr, e]
  | succ j ih =>
    intro n hn
    have i := ih (n + 1) (by omega)
    have d : X / 2 ^ (b - 1 - n) = 0 := by
      apply Nat.div_eq_of_lt
      exact Nat.lt_of_lt_of_le (nl_lt X) (Nat.pow_le_pow_right (by decide) (by omega))
    have sh : ((Int64.ofNat X).toUInt64 >>> (((Int32.ofInt (b : Int) - 1) - Int32.ofInt (n : Int)).toInt64.toUInt64 &&& Int64.toUInt64 63)).toInt64 = Int64.ofNat 0 := by
      rw [m3_1, zz_sb, zz_sb, zz_tn (by omega) (by omega), n6_63, jl_u63 (by omega), jl_us X64 (by omega), show ((b : Int) - 1 - n).toNat = b - 1 - n by omega, d]
    rw [← i, ev_lm, aX16_zeros_0]
    unfold tX16_zeros_3
    rw [if_neg (by rw [zz_le (by omega) (by omega) (by omega) (by omega)]; omega), if_neg (show ¬ (1 : Int32) = 0 by decide), sh, if_pos (show Int64.ofNat 0 &&& 1 = 0 by decide), jr_let, jr_kl, m3_1, zz_ad]
    rfl
/-- trailing zeros, b of them at most -/
def tz : Nat → Nat → Nat
  | 0, _ => 0
  | b + 1, X => if X % 2 = 1 then 0 else tz b (X / 2) + 1
theorem tz_e (b X : Nat) : tz (b + 1) X = if X % 2 = 1 then 0 else tz b (X / 2) + 1 := rfl
theorem tz_le : ∀ b X : Nat, tz b X ≤ b
  | 0, _ => Nat.le_refl _
  | b + 1, X => by
    unfold tz
    have := tz_le b (X / 2)
    split <;> omega
theorem tz_0 : ∀ b : Nat, tz b 0 = b
  | 0 => rfl
  | b + 1 => by
    unfold tz
    rw [if_neg (by decide), show 0 / 2 = 0 from rfl, tz_0 b]
theorem tz_c : ∀ b X : Nat, X ≠ 0 → X < 2 ^ b → ∃ c, X = 2 ^ tz b X * (2 * c + 1) ∧ tz b X < b
  | 0, X, h0, h => by rw [Nat.pow_zero] at h; omega
  | b + 1, X, h0, h => by
    unfold tz
    by_cases c : X % 2 = 1
    · rw [if_pos c]
      exact ⟨X / 2, by rw [Nat.pow_zero, Nat.one_mul]; omega, by omega⟩
    · rw [if_neg c]
      obtain ⟨d, e, l⟩ := tz_c b (X / 2) (by omega) (by rw [Nat.pow_succ] at h; omega)
      refine ⟨d, ?_, by omega⟩
      rw [Nat.pow_succ, Nat.mul_right_comm, ← e]
      omega
theorem mz_trail {b X : Nat} (hb : b = 32 ∨ b = 64) (hX : X < 18446744073709551616) : ∀ (j n : Nat), n + j = b → pm_lim sX16_zeros (Int64.ofNat X, Int32.ofInt b, 0, Int32.ofInt n) = some (Int32.ofInt (n + tz j (X / 2 ^ n) : Nat)) := by
  intro j
  induction j with
  | zero =>
    intro n hn
    rw [ev_lm, aX16_zeros_0]
    unfold tX16_zeros_3 tz
    rw [if_pos (by rw [zz_le (by omega) (by omega) (by omega) (by omega)]; omega), jr_kr]
    rfl
  | succ j ih =>
    intro n hn
    have q := Nat.div_le_self X (2 ^ n)
    have sh : ((Int64.ofNat X).toUInt64 >>> ((Int32.ofInt (n : Int)).toInt64.toUInt64 &&& Int64.toUInt64 63)).toInt64 &&& 1 = Int64.ofNat (X / 2 ^ n % 2) := by
      rw [zz_tn (by omega) (by omega), Int.toNat_natCast, n6_63, jl_u63 (by omega), jl_us hX (by omega), n6_1, ll_m1]
    have z : (Int64.ofNat (X / 2 ^ n % 2) = 0) = (X / 2 ^ n % 2 = 0) := by rw [n6_0, jl_eq (by omega) (by decide)]
    rw [ev_lm, aX16_zeros_0]
    unfold tX16_zeros_3 tz
    rw [if_neg (by rw [zz_le (by omega) (by omega) (by omega) (by omega)]; omega), if_pos (show (0 : Int32) = 0 from rfl), sh]
    by_cases c : X / 2 ^ n % 2 = 0
    · have i := ih (n + 1) (by omega)
      rw [Nat.pow_succ, ← Nat.div_div_eq_div_mul] at i
      rw [if_pos (by rw [z]; exact c), if_neg (by omega), jr_let, jr_kl, m3_1, zz_ad, show (n : Int) + 1 = ((n + 1 : Nat) : Int) by omega, i]
      congr 3
      omega
    · rw [if_neg (by rw [z]; exact c), if_pos (by omega), jr_kr, Nat.add_zero]
theorem tz_b : ∀ t c i : Nat, (!(2 ^ t * (2 * c + 1)).testBit i && (2 ^ t * (2 * c + 1) - 1).testBit i) = decide (i < t)
  | 0, c, 0 => by rw [Nat.pow_zero, Nat.one_mul, Nat.testBit_zero, decide_eq_true (by omega)]; rfl
  | 0, c, i + 1 => by
    rw [Nat.pow_zero, Nat.one_mul, Nat.testBit_add_one, Nat.testBit_add_one, show (2 * c + 1) / 2 = c by omega, show (2 * c + 1 - 1) / 2 = c by omega, decide_eq_false (by omega)]
    cases c.testBit i <;> rfl
  | t + 1, c, 0 => by
    have p : 0 < 2 ^ t * (2 * c + 1) := Nat.mul_pos (Nat.two_pow_pos t) (by omega)
    have e : 2 ^ (t + 1) * (2 * c + 1) = 2 * (2 ^ t * (2 * c + 1)) := by rw [Nat.pow_succ', Nat.mul_assoc]
    rw [e, Nat.testBit_zero, Nat.testBit_zero, decide_eq_false (by omega), decide_eq_true (by omega), decide_eq_true (by omega)]
    rfl
  | t + 1, c, i + 1 => by
    have p : 0 < 2 ^ t * (2 * c + 1) := Nat.mul_pos (Nat.two_pow_pos t) (by omega)
    have e : 2 ^ (t + 1) * (2 * c + 1) = 2 * (2 ^ t * (2 * c + 1)) := by rw [Nat.pow_succ', Nat.mul_assoc]
    have i2 := tz_b t c i
    rw [e, Nat.testBit_add_one, Nat.testBit_add_one, show 2 * (2 ^ t * (2 * c + 1)) / 2 = 2 ^ t * (2 * c + 1) by omega, show (2 * (2 ^ t * (2 * c + 1)) - 1) / 2 = 2 ^ t * (2 * c + 1) - 1 by omega, i2]
    by_cases d : i < t
    · rw [decide_eq_true d, decide_eq_true (by omega)]
    · rw [decide_eq_false d, decide_eq_false (by omega)]
theorem jn_tz1 {X : Nat} (h0 : X ≠ 0) (h : X < 4294967296) : (Int32.ofNat X ^^^ (-1)) &&& (Int32.ofNat X - 1) = Int32.ofNat (2 ^ tz 32 X - 1) := by
  obtain ⟨c, e, l⟩ := tz_c 32 X h0 h
  rw [show (1 : Int32) = Int32.ofNat 1 from rfl, nn_sb (by omega), show (-Int32.ofNat 1) = Int32.ofNat (2 ^ 32 - 1) by decide]
  apply Int32.toBitVec_inj.mp
  rw [Int32.toBitVec_and, Int32.toBitVec_xor]
  show (BitVec.ofNat 32 X ^^^ BitVec.ofNat 32 (2 ^ 32 - 1)) &&& BitVec.ofNat 32 (X - 1) = BitVec.ofNat 32 (2 ^ tz 32 X - 1)
  apply BitVec.eq_of_getLsbD_eq
  intro i hi
  have b := tz_b (tz 32 X) c i
  rw [← e] at b
  simp only [BitVec.getLsbD_and, BitVec.getLsbD_xor, BitVec.getLsbD_ofNat, Nat.testBit_two_pow_sub_one, decide_eq_true hi, Bool.true_and]
  rw [← b, Bool.xor_true]
theorem jn_tz2 : ∀ t : Fin 32, (if (0 : Int32) < Int32.ofNat (2 ^ t.val - 1) then (if Int32.ofNat (2 ^ t.val - 1) ≤ 65536 then (fJ6_numberOfTrailingZeros_0f7a4_b34 (Int32.ofNat (2 ^ t.val - 1)) 1) else (pm_let (1 + 16) fun y5 => pm_let (((Int32.ofNat (2 ^ t.val - 1)).toUInt32 >>> ((16 : Int32).toUInt32 &&& Int32.toUInt32 31)).toInt32) fun y7 => fJ6_numberOfTrailingZeros_0f7a4_b34 y7 y5)) else (Int32.ofNat (2 ^ t.val - 1) &&& 32)) = Int32.ofInt t.val := by decide +kernel
theorem jn_tz {X : Nat} (h : X < 4294967296) : fJ6_numberOfTrailingZeros_0f7a4 (Int32.ofNat X) = Int32.ofInt (tz 32 X) := by
  by_cases h0 : X = 0
  · subst h0
    rw [tz_0]
    decide
  · obtain ⟨c, e, l⟩ := tz_c 32 X h0 h
    have t := jn_tz2 ⟨tz 32 X, l⟩
    unfold fJ6_numberOfTrailingZeros_0f7a4
    rw [jr_let, jn_tz1 h0 h]
    exact t
theorem tz_s : ∀ a b X : Nat, X % 2 ^ a = 0 → tz (a + b) X = a + tz b (X / 2 ^ a)
  | 0, b, X, _ => by rw [Nat.zero_add, Nat.zero_add, Nat.pow_zero, Nat.div_one]
  | a + 1, b, X, h => by
    have e : X % 2 ^ (a + 1) = X % 2 + 2 * (X / 2 % 2 ^ a) := by rw [Nat.pow_succ', Nat.mod_mul]
    have i := tz_s a b (X / 2) (by omega)
    rw [show a + 1 + b = (a + b) + 1 by omega, tz_e, if_neg (by omega), i, Nat.pow_succ', Nat.div_div_eq_div_mul]
    omega
theorem tz_m : ∀ a b X : Nat, X % 2 ^ a ≠ 0 → tz (a + b) X = tz a (X % 2 ^ a)
  | 0, b, X, h => by rw [Nat.pow_zero, Nat.mod_one] at h; exact absurd rfl h
  | a + 1, b, X, h => by
    have e : X % 2 ^ (a + 1) = X % 2 + 2 * (X / 2 % 2 ^ a) := by rw [Nat.pow_succ', Nat.mod_mul]
    rw [show a + 1 + b = (a + b) + 1 by omega]
    unfold tz
    by_cases c : X % 2 = 1
    · rw [if_pos c, if_pos (by omega)]
    · rw [if_neg c, if_neg (by omega), tz_m a b (X / 2) (by omega), show X % 2 ^ (a + 1) / 2 = X / 2 % 2 ^ a by omega]
theorem jn_tz6 {X : Nat} (h : X < 18446744073709551616) : fJ13_numberOfTrailingZeros_95d88 (Int64.ofNat X) = Int32.ofInt (tz 64 X) := by
  unfold fJ13_numberOfTrailingZeros_95d88
  rw [show (32 : Int32).toInt64 = Int64.ofNat 32 from rfl, show (63 : Int64) = Int64.ofNat 63 from rfl, jl_u63 (by decide), jl_us h (by decide), jl_t3, jl_t3, show (0 : Int32) = Int32.ofNat 0 from rfl]
  by_cases c : X % 4294967296 = 0
  · have t : tz 64 X = 32 + tz 32 (X / 2 ^ 32) := tz_s 32 32 X c
    rw [if_pos (by rw [c]), jr_let, show X / 2 ^ 32 % 4294967296 = X / 2 ^ 32 by omega, jn_tz (by omega), show (32 : Int32) = Int32.ofInt 32 from rfl, zz_ad, t]
    congr 1
  · have t : tz 64 X = tz 32 (X % 2 ^ 32) := tz_m 32 32 X c
    rw [if_neg (by rw [jn_eq (by omega) (by decide)]; exact c), jr_let, jn_tz (by omega), t]
