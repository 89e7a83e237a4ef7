/-! NUMBERS: floating values towards 0 -/
theorem bv_xo {x y : BitVec 64} (h : x &&& y = 0) : x ^^^ y = x ||| y := by
  apply BitVec.eq_of_getLsbD_eq
  intro i hi
  have e := congrArg (fun z => z.getLsbD i) h
  simp only [BitVec.getLsbD_and] at e
  rw [BitVec.getLsbD_xor, BitVec.getLsbD_or]
  have e2 : (x.getLsbD i && y.getLsbD i) = false := by rw [e]; exact BitVec.getLsbD_zero
  revert e2
  cases x.getLsbD i <;> cases y.getLsbD i <;> simp
theorem jl_x0 {a : Nat} (h : a < 9223372036854775808) : Int64.ofNat a ^^^ (-9223372036854775808) = Int64.ofNat (9223372036854775808 + a) := by
  have z := jl_top0 (k := 63) (a := a) (by decide) h
  have o := jl_o (k := 63) (a := a) (c := 1) h (by omega)
  rw [Nat.one_mul] at o
  rw [show (-9223372036854775808 : Int64) = Int64.ofNat (2 ^ 63) by decide]
  have e : Int64.ofNat a ^^^ Int64.ofNat (2 ^ 63) = Int64.ofNat a ||| Int64.ofNat (2 ^ 63) := by
    apply Int64.toBitVec_inj.mp
    rw [Int64.toBitVec_xor, Int64.toBitVec_or]
    exact bv_xo (by rw [← Int64.toBitVec_and, z]; rfl)
  rw [e, jl_oc, o]
theorem jl_x {a : Nat} (h : a < 18446744073709551616) : (Int64.ofNat a ^^^ (-9223372036854775808)).toInt = (a : Int) - 9223372036854775808 := by
  by_cases c : a < 9223372036854775808
  · rw [jl_x0 c, ← Int64.toInt_toBitVec, BitVec.toInt_eq_toNat_cond, jl_tn (by omega), if_neg (by omega)]
    omega
  · have e := jl_x0 (a := a - 9223372036854775808) (by omega)
    rw [show 9223372036854775808 + (a - 9223372036854775808) = a by omega] at e
    rw [← e, Int64.xor_assoc, Int64.xor_self, Int64.xor_zero, jl_it (by omega)]
    omega
theorem cu_cmp {a b : Nat} (ha : a < 18446744073709551616) (hb : b < 18446744073709551616) : (fX8_compareWithoutSign (Int64.ofNat a) (Int64.ofNat b) ≤ 0) = (a ≤ b) := by
  unfold fX8_compareWithoutSign fJ13_compare_74951
  simp only [jr_let, jl_le, jl_ie, jl_x ha, jl_x hb]
  by_cases c1 : a < b
  · rw [if_neg (by omega)]
    exact propext ⟨fun _ => by omega, fun _ => by decide⟩
  · rw [if_pos (by omega)]
    by_cases c2 : a = b
    · rw [if_pos (by omega)]
      exact propext ⟨fun _ => by omega, fun _ => by decide⟩
    · rw [if_neg (by omega)]
      exact propext ⟨fun z => absurd z (by decide), fun z => by omega⟩
def lm (b : Nat) (s g : Bool) : Nat := if s = true then (if g = true then 2 ^ (b - 1) else 2 ^ (b - 1) - 1) else (if g = true then 0 else 2 ^ b - 1)
theorem lm_b {b : Nat} (hb : b = 32 ∨ b = 64) (s g : Bool) : lm b s g < 2 ^ b := by
  rcases hb with rfl | rfl <;> cases s <;> cases g <;> decide
def tM2 (X : Nat) : Nat := if so2 X ≠ 0 then 0 else if 0 ≤ pw2 X then wh2 X * 2 ^ (pw2 X).toNat else wh2 X / 2 ^ (-pw2 X).toNat
def fa2 (X : Nat) : Bool := decide (so2 X = 2 ∨ (so2 X = 0 ∧ 0 < pw2 X ∧ 64 < (nl (wh2 X) : Int) + pw2 X))
def be2 (b : Nat) (s : Bool) (X : Nat) : Bool := fa2 X || decide (lm b s (ng2 X) < tM2 X)
def tv2 (b : Nat) (s : Bool) (X : Nat) : Nat := if ng2 X = true then (18446744073709551616 - (if be2 b s X = true then lm b s (ng2 X) else tM2 X)) % 2 ^ b else (if be2 b s X = true then lm b s (ng2 X) else tM2 X) % 2 ^ b
/-- far away just if its scale is above 11 -/
theorem fa2_e {X : Nat} (c0 : so2 X = 0) : (fa2 X = true) = (11 < sE2 X) := by
  have l1 : nl (wh2 X) ≤ 53 := nl_le (by have := wh2_lt X; omega)
  unfold fa2 sE2
  rw [decide_eq_true_eq]
  exact propext ⟨fun z => by omega, fun z => .inr ⟨c0, by omega, by omega⟩⟩
theorem tM2_s {X : Nat} (hX : X < 4294967296) (c0 : so2 X = 0) (n : ¬ 11 < sE2 X) : tM2 X < 18446744073709551616 ∧ (0 ≤ sE2 X → sA2 X * 2 ^ (sE2 X).toNat = tM2 X) ∧ (sE2 X < 0 → sA2 X / 2 ^ (-sE2 X).toNat = tM2 X) := by
  have cX := so2_c X
  have x0 : X % 2147483648 ≠ 0 := by omega
  have s := sn2 x0
  have eA : wh2 X * 2 ^ (53 - nl (wh2 X)) = sA2 X := rfl
  have eE : pw2 X - ((53 - nl (wh2 X) : Nat) : Int) = sE2 X := rfl
  rw [eA] at s
  have l1 : nl (wh2 X) ≤ 53 := nl_le (by have := wh2_lt X; omega)
  have p0 : 0 ≤ sE2 X → sA2 X * 2 ^ (sE2 X).toNat = tM2 X := by
    intro h
    unfold tM2
    rw [if_neg (by omega), if_pos (by omega), ← eA, Nat.mul_assoc, ← Nat.pow_add, show 53 - nl (wh2 X) + (sE2 X).toNat = (pw2 X).toNat by omega]
  have p1 : sE2 X < 0 → sA2 X / 2 ^ (-sE2 X).toNat = tM2 X := by
    intro h
    unfold tM2
    rw [if_neg (by omega)]
    by_cases c : 0 ≤ pw2 X
    · rw [if_pos c]
      have e1 : sA2 X = wh2 X * 2 ^ (pw2 X).toNat * 2 ^ (-sE2 X).toNat := by
        rw [← eA, Nat.mul_assoc, ← Nat.pow_add, show (pw2 X).toNat + (-sE2 X).toNat = 53 - nl (wh2 X) by omega]
      rw [e1, Nat.mul_div_cancel _ (Nat.two_pow_pos _)]
    · rw [if_neg c]
      have e1 : (-sE2 X).toNat = (-pw2 X).toNat + (53 - nl (wh2 X)) := by omega
      rw [e1, Nat.pow_add, ← eA, Nat.mul_div_mul_right _ _ (Nat.two_pow_pos _)]
  refine ⟨?_, p0, p1⟩
  by_cases c : 0 ≤ sE2 X
  · rw [← p0 c]
    have : 2 ^ (sE2 X).toNat ≤ 2 ^ 11 := Nat.pow_le_pow_right (by decide) (by omega)
    have w : sA2 X * 2 ^ (sE2 X).toNat ≤ 9007199254740991 * 2 ^ 11 := Nat.mul_le_mul (by omega) this
    omega
  · rw [← p1 (by omega)]
    have := Nat.div_le_self (sA2 X) (2 ^ (-sE2 X).toNat)
    omega
def tM3 (X : Nat) : Nat := if so3 X ≠ 0 then 0 else if 0 ≤ pw3 X then wh3 X * 2 ^ (pw3 X).toNat else wh3 X / 2 ^ (-pw3 X).toNat
def fa3 (X : Nat) : Bool := decide (so3 X = 2 ∨ (so3 X = 0 ∧ 0 < pw3 X ∧ 64 < (nl (wh3 X) : Int) + pw3 X))
def be3 (b : Nat) (s : Bool) (X : Nat) : Bool := fa3 X || decide (lm b s (ng3 X) < tM3 X)
def tv3 (b : Nat) (s : Bool) (X : Nat) : Nat := if ng3 X = true then (18446744073709551616 - (if be3 b s X = true then lm b s (ng3 X) else tM3 X)) % 2 ^ b else (if be3 b s X = true then lm b s (ng3 X) else tM3 X) % 2 ^ b
/-- far away just if its scale is above 11 -/
theorem fa3_e {X : Nat} (c0 : so3 X = 0) : (fa3 X = true) = (11 < sE3 X) := by
  have l1 : nl (wh3 X) ≤ 53 := nl_le (by have := wh3_lt X; omega)
  unfold fa3 sE3
  rw [decide_eq_true_eq]
  exact propext ⟨fun z => by omega, fun z => .inr ⟨c0, by omega, by omega⟩⟩
theorem tM3_s {X : Nat} (hX : X < 18446744073709551616) (c0 : so3 X = 0) (n : ¬ 11 < sE3 X) : tM3 X < 18446744073709551616 ∧ (0 ≤ sE3 X → sA3 X * 2 ^ (sE3 X).toNat = tM3 X) ∧ (sE3 X < 0 → sA3 X / 2 ^ (-sE3 X).toNat = tM3 X) := by
  have cX := so3_c X
  have x0 : X % 9223372036854775808 ≠ 0 := by omega
  have s := sn3 x0
  have eA : wh3 X * 2 ^ (53 - nl (wh3 X)) = sA3 X := rfl
  have eE : pw3 X - ((53 - nl (wh3 X) : Nat) : Int) = sE3 X := rfl
  rw [eA] at s
  have l1 : nl (wh3 X) ≤ 53 := nl_le (by have := wh3_lt X; omega)
  have p0 : 0 ≤ sE3 X → sA3 X * 2 ^ (sE3 X).toNat = tM3 X := by
    intro h
    unfold tM3
    rw [if_neg (by omega), if_pos (by omega), ← eA, Nat.mul_assoc, ← Nat.pow_add, show 53 - nl (wh3 X) + (sE3 X).toNat = (pw3 X).toNat by omega]
  have p1 : sE3 X < 0 → sA3 X / 2 ^ (-sE3 X).toNat = tM3 X := by
    intro h
    unfold tM3
    rw [if_neg (by omega)]
    by_cases c : 0 ≤ pw3 X
    · rw [if_pos c]
      have e1 : sA3 X = wh3 X * 2 ^ (pw3 X).toNat * 2 ^ (-sE3 X).toNat := by
        rw [← eA, Nat.mul_assoc, ← Nat.pow_add, show (pw3 X).toNat + (-sE3 X).toNat = 53 - nl (wh3 X) by omega]
      rw [e1, Nat.mul_div_cancel _ (Nat.two_pow_pos _)]
    · rw [if_neg c]
      have e1 : (-sE3 X).toNat = (-pw3 X).toNat + (53 - nl (wh3 X)) := by omega
      rw [e1, Nat.pow_add, ← eA, Nat.mul_div_mul_right _ _ (Nat.two_pow_pos _)]
  refine ⟨?_, p0, p1⟩
  by_cases c : 0 ≤ sE3 X
  · rw [← p0 c]
    have : 2 ^ (sE3 X).toNat ≤ 2 ^ 11 := Nat.pow_le_pow_right (by decide) (by omega)
    have w : sA3 X * 2 ^ (sE3 X).toNat ≤ 9007199254740991 * 2 ^ 11 := Nat.mul_le_mul (by omega) this
    omega
  · rw [← p1 (by omega)]
    have := Nat.div_le_self (sA3 X) (2 ^ (-sE3 X).toNat)
    omega
