/-! NUMBERS: products, class and reference -/
theorem bN_ne (a b : Bool) : (bI a = bI b) = ((a ^^ b) = false) := by cases a <;> cases b <;> decide
theorem jp_cls {x y : Nat} (hx : x < 9007199254740992) (hy : y < 9007199254740992) (k : Int64 → Int64) : (pm_let ((((Int64.ofNat x).toUInt64 >>> ((27 : Int32).toInt64.toUInt64 &&& Int64.toUInt64 63)).toInt64 * (Int64.ofNat y &&& 134217727)) + ((Int64.ofNat x &&& 134217727) * (((Int64.ofNat y).toUInt64 >>> ((27 : Int32).toInt64.toUInt64 &&& Int64.toUInt64 63)).toInt64))) fun y31 => pm_let (((Int64.ofNat x &&& 134217727) * (Int64.ofNat y &&& 134217727)) + ((y31 &&& 134217727) <<< ((27 : Int32).toInt64 &&& 63))) fun y33 => pm_let (((((Int64.ofNat x).toUInt64 >>> ((27 : Int32).toInt64.toUInt64 &&& Int64.toUInt64 63)).toInt64 * (((Int64.ofNat y).toUInt64 >>> ((27 : Int32).toInt64.toUInt64 &&& Int64.toUInt64 63)).toInt64)) + ((y31.toUInt64 >>> ((27 : Int32).toInt64.toUInt64 &&& Int64.toUInt64 63)).toInt64)) + ((y33.toUInt64 >>> ((54 : Int32).toInt64.toUInt64 &&& Int64.toUInt64 63)).toInt64)) fun y35 => pm_let (y33 &&& 18014398509481983) fun y37 => if (y37 &&& 17592186044415) = 0 then k (((y35 <<< ((10 : Int32).toInt64 &&& 63)) ||| ((y37.toUInt64 >>> ((44 : Int32).toInt64.toUInt64 &&& Int64.toUInt64 63)).toInt64)) ||| ((0 : Int32).toInt64)) else k (((y35 <<< ((10 : Int32).toInt64 &&& 63)) ||| ((y37.toUInt64 >>> ((44 : Int32).toInt64.toUInt64 &&& Int64.toUInt64 63)).toInt64)) ||| ((1 : Int32).toInt64))) = k (Int64.ofNat (od (x * y / 17592186044416) (decide (x * y % 17592186044416 ≠ 0)))) := by
  have ml := jp_ml x y
  have xa : x / 134217728 < 67108864 := by omega
  have xb : x % 134217728 < 134217728 := by omega
  have ya : y / 134217728 < 67108864 := by omega
  have yb : y % 134217728 < 134217728 := by omega
  have b1 := jp_lt xa ya (by decide)
  have b2 := jp_lt xa yb (by decide)
  have b3 := jp_lt xb ya (by decide)
  have b4 := jp_lt xb yb (by decide)
  have m27 : ∀ z : Nat, Int64.ofNat z &&& 134217727 = Int64.ofNat (z % 134217728) := fun z => ll_mk z 27 (by decide)
  have m54 : ∀ z : Nat, Int64.ofNat z &&& 18014398509481983 = Int64.ofNat (z % 18014398509481984) := fun z => ll_mk z 54 (by decide)
  have m44 : ∀ z : Nat, Int64.ofNat z &&& 17592186044415 = Int64.ofNat (z % 17592186044416) := fun z => ll_mk z 44 (by decide)
  have u27 : ∀ z : Nat, z < 18446744073709551616 → ((Int64.ofNat z).toUInt64 >>> ((27 : Int32).toInt64.toUInt64 &&& Int64.toUInt64 63)).toInt64 = Int64.ofNat (z / 134217728) := fun z hz => by rw [show ((27 : Int32).toInt64.toUInt64 &&& Int64.toUInt64 63) = (Int64.ofNat 27).toUInt64 by decide, jl_us hz (by decide)]
  have u54 : ∀ z : Nat, z < 18446744073709551616 → ((Int64.ofNat z).toUInt64 >>> ((54 : Int32).toInt64.toUInt64 &&& Int64.toUInt64 63)).toInt64 = Int64.ofNat (z / 18014398509481984) := fun z hz => by rw [show ((54 : Int32).toInt64.toUInt64 &&& Int64.toUInt64 63) = (Int64.ofNat 54).toUInt64 by decide, jl_us hz (by decide)]
  have u44 : ∀ z : Nat, z < 18446744073709551616 → ((Int64.ofNat z).toUInt64 >>> ((44 : Int32).toInt64.toUInt64 &&& Int64.toUInt64 63)).toInt64 = Int64.ofNat (z / 17592186044416) := fun z hz => by rw [show ((44 : Int32).toInt64.toUInt64 &&& Int64.toUInt64 63) = (Int64.ofNat 44).toUInt64 by decide, jl_us hz (by decide)]
  have s27 : ∀ z : Nat, Int64.ofNat z <<< ((27 : Int32).toInt64 &&& 63) = Int64.ofNat (z * 134217728) := fun z => by rw [show ((27 : Int32).toInt64 &&& 63) = Int64.ofNat 27 by decide, ll_sl _ (by decide)]
  have s10 : ∀ z : Nat, Int64.ofNat z <<< ((10 : Int32).toInt64 &&& 63) = Int64.ofNat (z * 1024) := fun z => by rw [show ((10 : Int32).toInt64 &&& 63) = Int64.ofNat 10 by decide, ll_sl _ (by decide)]
  simp only [jr_let, u27 x (by omega), u27 y (by omega), m27, ll_ml, ll_ad, s27]
  generalize x / 134217728 * (y / 134217728) = P at *
  generalize x / 134217728 * (y % 134217728) = Q at *
  generalize x % 134217728 * (y / 134217728) = R at *
  generalize x % 134217728 * (y % 134217728) = S at *
  simp only [u27 (Q + R) (by omega), u54 (S + (Q + R) % 134217728 * 134217728) (by omega), m54, m44, ll_ad, s10]
  rw [u44 _ (by omega), jl_o (k := 10) (by omega) (by omega), show (0 : Int32).toInt64 = Int64.ofNat 0 from rfl, show (1 : Int32).toInt64 = Int64.ofNat 1 from rfl, jl_o0]
  have q : (P + (Q + R) / 134217728 + (S + (Q + R) % 134217728 * 134217728) / 18014398509481984) * 2 ^ 10 + (S + (Q + R) % 134217728 * 134217728) % 18014398509481984 / 17592186044416 = x * y / 17592186044416 := by
    rw [ml]; omega
  have r : (S + (Q + R) % 134217728 * 134217728) % 18014398509481984 % 17592186044416 = x * y % 17592186044416 := by
    rw [ml]; omega
  have xy : x * y / 17592186044416 < 9223372036854775808 := by rw [ml]; omega
  rw [q, r]
  generalize x * y / 17592186044416 = V at *
  generalize x * y % 17592186044416 = U at *
  have z : (Int64.ofNat U = 0) = (U = 0) := by rw [n6_0, jl_eq (by omega) (by decide)]
  unfold od
  by_cases c : U = 0
  · rw [if_pos (by rw [z]; exact c), if_neg (fun w => by simp [c] at w)]
  · rw [if_neg (by rw [z]; exact c)]
    by_cases d : V % 2 = 0
    · rw [jl_o1 (by omega) d, if_pos ⟨by simp [c], d⟩]
    · rw [jl_o2 (by omega) (by omega), if_neg (fun w => d w.2)]
theorem so2_c (X : Nat) : (so2 X = 1 ∧ X % 2147483648 = 0) ∨ (so2 X = 0 ∧ 0 < X % 2147483648 ∧ X % 2147483648 < 2139095040) ∨ (so2 X = 2 ∧ X % 2147483648 = 2139095040) ∨ (so2 X = 3 ∧ 2139095040 < X % 2147483648) := by
  unfold so2
  repeat' split
  all_goals omega
def sg2 (g : Bool) : Nat := if g = true then 2 ^ 31 else 0
theorem sg2_le (g : Bool) : sg2 g = 0 ∨ sg2 g = 2147483648 := by cases g <;> simp [sg2]
def ml2 (X Y : Nat) : Nat := if so2 X = 3 ∨ so2 Y = 3 ∨ so2 X + so2 Y = 3 then 2143289344 else if so2 X = 2 ∨ so2 Y = 2 then sg2 (ng2 X ^^ ng2 Y) + 2139095040 else if so2 X = 1 ∨ so2 Y = 1 then sg2 (ng2 X ^^ ng2 Y) else f2 (ng2 X ^^ ng2 Y) (wh2 X * wh2 Y) (pw2 X + pw2 Y) false
/-- the significand of the class, and the reference's -/
theorem sn2 {X : Nat} (h0 : X % 2147483648 ≠ 0) : wh2 X * 2 ^ (53 - nl (wh2 X)) < 9007199254740992 ∧ 4503599627370496 ≤ wh2 X * 2 ^ (53 - nl (wh2 X)) := by
  have w := wh2_lt X
  have w0 := wh2_0 h0
  have l : nl (wh2 X) ≤ 53 := nl_le (by omega)
  have l1 := (nl_ge w0).1
  have n := nl_mul (53 - nl (wh2 X)) w0
  have e : nl (wh2 X * 2 ^ (53 - nl (wh2 X))) = 53 := by omega
  have m0 : wh2 X * 2 ^ (53 - nl (wh2 X)) ≠ 0 := by intro z; rw [z, nl_0] at e; omega
  have a := nl_lt (wh2 X * 2 ^ (53 - nl (wh2 X)))
  have b := (nl_ge m0).2
  rw [e] at a b
  exact ⟨a, b⟩
theorem so3_c (X : Nat) : (so3 X = 1 ∧ X % 9223372036854775808 = 0) ∨ (so3 X = 0 ∧ 0 < X % 9223372036854775808 ∧ X % 9223372036854775808 < 9218868437227405312) ∨ (so3 X = 2 ∧ X % 9223372036854775808 = 9218868437227405312) ∨ (so3 X = 3 ∧ 9218868437227405312 < X % 9223372036854775808) := by
  unfold so3
  repeat' split
  all_goals omega
def sg3 (g : Bool) : Nat := if g = true then 2 ^ 63 else 0
theorem sg3_le (g : Bool) : sg3 g = 0 ∨ sg3 g = 9223372036854775808 := by cases g <;> simp [sg3]
def ml3 (X Y : Nat) : Nat := if so3 X = 3 ∨ so3 Y = 3 ∨ so3 X + so3 Y = 3 then 9221120237041090560 else if so3 X = 2 ∨ so3 Y = 2 then sg3 (ng3 X ^^ ng3 Y) + 9218868437227405312 else if so3 X = 1 ∨ so3 Y = 1 then sg3 (ng3 X ^^ ng3 Y) else f3 (ng3 X ^^ ng3 Y) (wh3 X * wh3 Y) (pw3 X + pw3 Y) false
/-- the significand of the class, and the reference's -/
theorem sn3 {X : Nat} (h0 : X % 9223372036854775808 ≠ 0) : wh3 X * 2 ^ (53 - nl (wh3 X)) < 9007199254740992 ∧ 4503599627370496 ≤ wh3 X * 2 ^ (53 - nl (wh3 X)) := by
  have w := wh3_lt X
  have w0 := wh3_0 h0
  have l : nl (wh3 X) ≤ 53 := nl_le (by omega)
  have l1 := (nl_ge w0).1
  have n := nl_mul (53 - nl (wh3 X)) w0
  have e : nl (wh3 X * 2 ^ (53 - nl (wh3 X))) = 53 := by omega
  have m0 : wh3 X * 2 ^ (53 - nl (wh3 X)) ≠ 0 := by intro z; rw [z, nl_0] at e; omega
  have a := nl_lt (wh3 X * 2 ^ (53 - nl (wh3 X)))
  have b := (nl_ge m0).2
  rw [e] at a b
  exact ⟨a, b⟩
