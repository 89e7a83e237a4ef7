/-! NUMBERS: products -/
/-- where the reference keeps the two floating values -/
def mO (h : pm_H) : Prop := pm_kd h 592 = 16 ∧ pm_R h 592 34 = some 605 ∧ pm_R h 592 35 = some 606 ∧ pm_kd h 605 = 15 ∧ pm_kd h 606 = 15
theorem rv_kd (h : pm_H) (a : Nat) (g : Bool) (so w : Nat) (p : Int) : pm_kd (rv h a g so w p) = pm_kd h := rfl
theorem rv_R (h : pm_H) (a : Nat) (g : Bool) (so w : Nat) (p : Int) : pm_R (rv h a g so w p) = pm_R h := rfl
theorem rv_I0 (h : pm_H) (a : Nat) (g : Bool) (so w : Nat) (p : Int) : pm_I (rv h a g so w p) a 0 = bI g := by
  unfold rv; simp only [ev_II, ev_IL, if_true, if_false, show (0 : Nat) = 3 ↔ False by decide, show (0 : Nat) = 1 ↔ False by decide]
theorem rv_I1 (h : pm_H) (a : Nat) (g : Bool) (so w : Nat) (p : Int) : pm_I (rv h a g so w p) a 1 = Int32.ofInt so := by
  unfold rv; simp only [ev_II, ev_IL, if_true, if_false, show (1 : Nat) = 3 ↔ False by decide]
theorem rv_I3 (h : pm_H) (a : Nat) (g : Bool) (so w : Nat) (p : Int) : pm_I (rv h a g so w p) a 3 = Int32.ofInt p := by
  unfold rv; simp only [ev_II, ev_IL, if_true]
theorem rv_L2 (h : pm_H) (a : Nat) (g : Bool) (so w : Nat) (p : Int) : pm_L (rv h a g so w p) a 2 = Int64.ofNat w := by
  unfold rv; simp only [ev_LI, ev_LL, if_true]
theorem rv_In (h : pm_H) {a x : Nat} (y : Nat) (g : Bool) (so w : Nat) (p : Int) (n : x ≠ a) : pm_I (rv h a g so w p) x y = pm_I h x y := by
  unfold rv; simp only [ev_II, ev_IL, n, if_false]
theorem rv_Ln (h : pm_H) {a x : Nat} (y : Nat) (g : Bool) (so w : Nat) (p : Int) (n : x ≠ a) : pm_L (rv h a g so w p) x y = pm_L h x y := by
  unfold rv; simp only [ev_LI, ev_LL, n, if_false]
theorem rv_O {h : pm_H} (a : Nat) (g : Bool) (so w : Nat) (p : Int) (O : mO h) : mO (rv h a g so w p) := O
theorem jl_min {a : Nat} (h : a < 18446744073709551616) : (Int64.ofNat a + (-9223372036854775808)).toInt = (a : Int) - 9223372036854775808 := by
  rw [show (-9223372036854775808 : Int64) = Int64.ofNat 9223372036854775808 by decide, ll_ad, jl_wrap]
  by_cases c : a < 9223372036854775808
  · rw [Nat.mod_eq_of_lt (by omega), ← Int64.toInt_toBitVec, BitVec.toInt_eq_toNat_cond, jl_tn (by omega), if_neg (by omega)]
    omega
  · rw [show (a + 9223372036854775808) % 18446744073709551616 = a - 9223372036854775808 by omega, ← Int64.toInt_toBitVec, BitVec.toInt_eq_toNat_cond, jl_tn (by omega), if_pos (by omega)]
    omega
theorem jm_below {a b : Nat} (ha : a < 18446744073709551616) (hb : b < 18446744073709551616) : fX16_isBelow (Int64.ofNat a) (Int64.ofNat b) = bI (decide (a < b)) := by
  unfold fX16_isBelow
  by_cases c : a < b
  · rw [if_neg (by rw [Int64.le_iff_toInt_le, jl_min ha, jl_min hb]; omega), decide_eq_true c]; rfl
  · rw [if_pos (by rw [Int64.le_iff_toInt_le, jl_min ha, jl_min hb]; omega), decide_eq_false c]; rfl
/-- rounding with a trace, and with more zeros -/
theorem fl_ex {w p : Nat} {em : Int} {top : Nat} {g : Bool} {M : Nat} {E : Int} (z : Nat) (h : M ≠ 0) : fl w p em top g (M * 2 ^ z) (E - z) false = fl w p em top g M E false := by
  unfold fl
  have h2 : M * 2 ^ z ≠ 0 := Nat.mul_ne_zero h (Nat.ne_of_gt (Nat.two_pow_pos z))
  rw [rd_ex z h, if_neg h, if_neg h2]
theorem fl_odd {w p : Nat} {em : Int} {top : Nat} {g : Bool} {M k : Nat} {E : Int} (hp : 1 ≤ p) (h : p + k + 2 ≤ nl M) : fl w p em top g (od (M / 2 ^ k) (decide (M % 2 ^ k ≠ 0))) (E + k) false = fl w p em top g M E false := by
  have a := rd_q_c p em M E
  have M0 : M ≠ 0 := by intro z; rw [z, nl_0] at h; omega
  have d0 : M / 2 ^ k ≠ 0 := by
    intro z
    have := nl_le ((Nat.div_eq_zero_iff_lt (Nat.two_pow_pos k)).mp z)
    omega
  have o0 : od (M / 2 ^ k) (decide (M % 2 ^ k ≠ 0)) ≠ 0 := by
    unfold od
    split <;> omega
  have v := rd_q_div (p := p) (em := em) (M := M) (E := E) (k := k) (by omega)
  have e := rd_od (p := p) (em := em) (M := M / 2 ^ k) (E := E + k) (decide (M % 2 ^ k ≠ 0)) hp (by rw [v]; omega)
  unfold fl
  rw [if_neg M0, if_neg o0, rd_odd (p := p) (em := em) (M := M) (E := E) (s := false) (k := k) (by omega), Bool.false_or, e]
theorem jp_ml (x y : Nat) : x * y = x / 134217728 * (y / 134217728) * 18014398509481984 + (x / 134217728 * (y % 134217728) + x % 134217728 * (y / 134217728)) * 134217728 + x % 134217728 * (y % 134217728) := by
  have h1 : x = x / 134217728 * 134217728 + x % 134217728 := by omega
  have h2 : y = y / 134217728 * 134217728 + y % 134217728 := by omega
  generalize x / 134217728 = a at *
  generalize x % 134217728 = b at *
  generalize y / 134217728 = c at *
  generalize y % 134217728 = d at *
  rw [h1, h2, Nat.add_mul, Nat.mul_add, Nat.mul_add, Nat.add_mul, show a * 134217728 * (c * 134217728) = a * c * 18014398509481984 by rw [Nat.mul_mul_mul_comm], show a * 134217728 * d = a * d * 134217728 by rw [Nat.mul_right_comm], show b * (c * 134217728) = b * c * 134217728 by rw [Nat.mul_assoc]]
  omega
theorem jp_lt {a b m n : Nat} (h1 : a < m) (h2 : b < n) (hn : 0 < n) : a * b < m * n := Nat.mul_lt_mul_of_lt_of_le h1 (Nat.le_of_lt h2) hn
/-- the reference's 128 bits -/
theorem jp_ref {x y : Nat} (hx : x < 9007199254740992) (hy : y < 9007199254740992) :
    ∃ hi lo : Nat, hi < 18446744073709551616 ∧ lo < 18446744073709551616 ∧ hi * 18446744073709551616 + lo = x * y ∧
    ∀ (k : Int64 → Int64 → Option (Int64 × pm_H)), (pm_let (((Int64.ofNat x).toUInt64 >>> ((27 : Int32).toInt64.toUInt64 &&& Int64.toUInt64 63)).toInt64) fun y45 => pm_let ((Int64.ofNat x) &&& 134217727) fun y47 => pm_let (((Int64.ofNat y).toUInt64 >>> ((27 : Int32).toInt64.toUInt64 &&& Int64.toUInt64 63)).toInt64) fun y49 => pm_let ((Int64.ofNat y) &&& 134217727) fun y51 => pm_let ((y45 * y51) + (y47 * y49)) fun y53 => pm_let ((y47 * y51) + (y53 <<< ((27 : Int32).toInt64 &&& 63))) fun y55 => pm_let ((y53.toUInt64 >>> ((37 : Int32).toInt64.toUInt64 &&& Int64.toUInt64 63)).toInt64) fun y57 => pm_let (fX16_isBelow y55 (y47 * y51)) fun v59 => if v59 = 0 then (pm_let (y55 + ((y45 * y49) <<< ((54 : Int32).toInt64 &&& 63))) fun y62 => pm_let (y57 + (((y45 * y49).toUInt64 >>> ((10 : Int32).toInt64.toUInt64 &&& Int64.toUInt64 63)).toInt64)) fun y64 => pm_let (fX16_isBelow y62 y55) fun v66 => if v66 = 0 then (k y64 y62) else (pm_let (y64 + 1) fun y71 => k y71 y62)) else (pm_let (y57 + 1) fun y75 => pm_let (y55 + ((y45 * y49) <<< ((54 : Int32).toInt64 &&& 63))) fun y77 => pm_let (y75 + (((y45 * y49).toUInt64 >>> ((10 : Int32).toInt64.toUInt64 &&& Int64.toUInt64 63)).toInt64)) fun y79 => pm_let (fX16_isBelow y77 y55) fun v81 => if v81 = 0 then (k y79 y77) else (pm_let (y79 + 1) fun y86 => k y86 y77))) = k (Int64.ofNat hi) (Int64.ofNat lo) := by
  have ml := jp_ml x y
  have xa : x / 134217728 < 67108864 := by omega
  have xb : x % 134217728 < 134217728 := by omega
  have ya : y / 134217728 < 67108864 := by omega
  have yb : y % 134217728 < 134217728 := by omega
  have b1 := jp_lt xa ya (by decide)
  have b2 := jp_lt xa yb (by decide)
  have b3 := jp_lt xb ya (by decide)
  have b4 := jp_lt xb yb (by decide)
  have m27 : ∀ z : Nat, Int64.ofNat z &&& 134217727 = Int64.ofNat (z % 134217728) := fun z => ll_mk z 27 (by decide)
  have u27 : ∀ z : Nat, z < 18446744073709551616 → ((Int64.ofNat z).toUInt64 >>> ((27 : Int32).toInt64.toUInt64 &&& Int64.toUInt64 63)).toInt64 = Int64.ofNat (z / 134217728) := fun z hz => by rw [show ((27 : Int32).toInt64.toUInt64 &&& Int64.toUInt64 63) = (Int64.ofNat 27).toUInt64 by decide, jl_us hz (by decide)]
  have u37 : ∀ z : Nat, z < 18446744073709551616 → ((Int64.ofNat z).toUInt64 >>> ((37 : Int32).toInt64.toUInt64 &&& Int64.toUInt64 63)).toInt64 = Int64.ofNat (z / 137438953472) := fun z hz => by rw [show ((37 : Int32).toInt64.toUInt64 &&& Int64.toUInt64 63) = (Int64.ofNat 37).toUInt64 by decide, jl_us hz (by decide)]
  have u10 : ∀ z : Nat, z < 18446744073709551616 → ((Int64.ofNat z).toUInt64 >>> ((10 : Int32).toInt64.toUInt64 &&& Int64.toUInt64 63)).toInt64 = Int64.ofNat (z / 1024) := fun z hz => by rw [show ((10 : Int32).toInt64.toUInt64 &&& Int64.toUInt64 63) = (Int64.ofNat 10).toUInt64 by decide, jl_us hz (by decide)]
  have s27 : ∀ z : Nat, Int64.ofNat z <<< ((27 : Int32).toInt64 &&& 63) = Int64.ofNat (z * 134217728) := fun z => by rw [show ((27 : Int32).toInt64 &&& 63) = Int64.ofNat 27 by decide, ll_sl _ (by decide)]
  have s54 : ∀ z : Nat, Int64.ofNat z <<< ((54 : Int32).toInt64 &&& 63) = Int64.ofNat (z * 18014398509481984) := fun z => by rw [show ((54 : Int32).toInt64 &&& 63) = Int64.ofNat 54 by decide, ll_sl _ (by decide)]
  simp only [jr_let, u27 x (by omega), u27 y (by omega), m27, ll_ml, ll_ad, s27, s54]
  generalize x / 134217728 * (y / 134217728) = P at *
  generalize x / 134217728 * (y % 134217728) = Q at *
  generalize x % 134217728 * (y / 134217728) = R at *
  generalize x % 134217728 * (y % 134217728) = S at *
  simp only [u37 (Q + R) (by omega), u10 P (by omega)]
  have lo1 := jl_wrap (S + (Q + R) * 134217728)
  have below1 := jm_below (a := (S + (Q + R) * 134217728) % 18446744073709551616) (b := S) (by omega) (by omega)
  have below2 := jm_below (a := (S + (Q + R) * 134217728 + P * 18014398509481984) % 18446744073709551616) (b := (S + (Q + R) * 134217728) % 18446744073709551616) (by omega) (by omega)
  rw [← jl_wrap] at below1
  rw [← jl_wrap, ← jl_wrap] at below2
  simp only [below1, below2, bI_0, decide_eq_false_iff_not]
  rw [ml, n6_1]
  by_cases c1 : (S + (Q + R) * 134217728) % 18446744073709551616 < S
  · by_cases c2 : (S + (Q + R) * 134217728 + P * 18014398509481984) % 18446744073709551616 < (S + (Q + R) * 134217728) % 18446744073709551616
    · refine ⟨(Q + R) / 137438953472 + 1 + P / 1024 + 1, (S + (Q + R) * 134217728 + P * 18014398509481984) % 18446744073709551616, by omega, by omega, by omega, fun k => ?_⟩
      rw [if_neg (by omega), if_neg (by omega), ll_ad, ll_ad, ll_ad, ← jl_wrap]
    · refine ⟨(Q + R) / 137438953472 + 1 + P / 1024, (S + (Q + R) * 134217728 + P * 18014398509481984) % 18446744073709551616, by omega, by omega, by omega, fun k => ?_⟩
      rw [if_neg (by omega), if_pos (by omega), ll_ad, ll_ad, ← jl_wrap]
  · by_cases c2 : (S + (Q + R) * 134217728 + P * 18014398509481984) % 18446744073709551616 < (S + (Q + R) * 134217728) % 18446744073709551616
    · refine ⟨(Q + R) / 137438953472 + P / 1024 + 1, (S + (Q + R) * 134217728 + P * 18014398509481984) % 18446744073709551616, by omega, by omega, by omega, fun k => ?_⟩
      rw [if_pos (by omega), if_neg (by omega), ll_ad, ll_ad, ← jl_wrap]
    · refine ⟨(Q + R) / 137438953472 + P / 1024, (S + (Q + R) * 134217728 + P * 18014398509481984) % 18446744073709551616, by omega, by omega, by omega, fun k => ?_⟩
      rw [if_pos (by omega), if_pos (by omega), ll_ad, ← jl_wrap]
