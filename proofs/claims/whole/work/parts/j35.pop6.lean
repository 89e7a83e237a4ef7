/-! NUMBERS: how many bits of 64 are 1: the last sums -/
theorem po_8 {a R : Nat} (h : a < 256) : (a + 256 * R) / 2 ^ 8 = R := by
  rw [show (2 : Nat) ^ 8 = 256 from rfl, Nat.add_mul_div_left _ _ (by decide), Nat.div_eq_of_lt h, Nat.zero_add]
theorem po_16 {a R : Nat} (h : a < 65536) : (a + 65536 * R) / 2 ^ 16 = R := by
  rw [show (2 : Nat) ^ 16 = 65536 from rfl, Nat.add_mul_div_left _ _ (by decide), Nat.div_eq_of_lt h, Nat.zero_add]
theorem po_32 {a b R : Nat} (h : a < 65536) (h2 : b < 65536) : (a + 65536 * (b + 65536 * R)) / 2 ^ 32 = R := by
  rw [show (2 : Nat) ^ 32 = 65536 * 65536 from rfl, ← Nat.div_div_eq_div_mul, Nat.add_mul_div_left _ _ (by decide), Nat.div_eq_of_lt h, Nat.zero_add, Nat.add_mul_div_left _ _ (by decide), Nat.div_eq_of_lt h2, Nat.zero_add]
theorem po_m {a R : Nat} (h : a < 128) : (a + 128 * R) % 128 = a := by
  rw [Nat.add_mul_mod_self_left, Nat.mod_eq_of_lt h]
theorem po_v (U0 U1 U2 U3 : Nat) : U0 + 65536 * (U1 + 65536 * (U2 + 65536 * U3)) + (U1 + 65536 * (U2 + 65536 * U3)) = (U0 + U1) + 65536 * ((U1 + U2) + 65536 * ((U2 + U3) + 65536 * U3)) := by omega
theorem po_w (U0 U1 U2 U3 : Nat) : (U0 + U1) + 65536 * ((U1 + U2) + 65536 * ((U2 + U3) + 65536 * U3)) + ((U2 + U3) + 65536 * U3) = (U0 + U1 + U2 + U3) + 128 * (512 * ((U1 + U2) + 65536 * ((U2 + U3) + 65536 * U3)) + 512 * U3) := by omega
theorem po_y (P0 P1 P2 P3 P4 P5 P6 P7 : Nat) : P0 + 256 * (P1 + 256 * (P2 + 256 * (P3 + 256 * (P4 + 256 * (P5 + 256 * (P6 + 256 * P7)))))) + (P1 + 256 * (P2 + 256 * (P3 + 256 * (P4 + 256 * (P5 + 256 * (P6 + 256 * P7)))))) = (P0 + P1 + 256 * (P1 + P2)) + 65536 * ((P2 + P3 + 256 * (P3 + P4)) + 65536 * ((P4 + P5 + 256 * (P5 + P6)) + 65536 * (P6 + P7 + 256 * P7))) := by omega
