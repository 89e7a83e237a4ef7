/-! NUMBERS: roots: the loops of both -/
theorem jr_m (x1 x6 : Int32) (h : pm_H) {m : Nat} (hm : m < 18446744073709551616) : ∀ (n r f : Nat), n ≤ 58 → r ≤ 2 * f → f < 2 ^ (58 - n) → pm_lim sX16_root (.inr (x1, Int64.ofNat m, x6, Int64.ofNat r, Int64.ofNat f, Int32.ofInt ((n : Int) - 30), h)) = (fX16_rounded x1 0 0 (Int64.ofNat (rt m n r f).2) (x6 / 2 - 29) (bI (decide ((rt m n r f).1 ≠ 0)))).bind fun v => some (v, h) := by
  intro n
  induction n with
  | zero =>
    intro r f hn hr hf
    rw [Nat.sub_zero] at hf
    have hf2 : f < 288230376151711744 := hf
    have l : Int32.ofInt (((0 : Nat) : Int) - 30) ≤ (-30 : Int32) := by decide
    have r0 : (Int64.ofNat r = 0) = (r = 0) := by rw [n6_0, jl_eq (by omega) (by decide)]
    rw [ev_lm, aX16_root_1]
    unfold tX16_root_117 rt
    rw [if_pos l]
    by_cases c : r = 0
    · rw [if_pos (by rw [r0]; exact c), c, show bI (decide ((0 : Nat) ≠ 0)) = 0 by decide]
      cases fX16_rounded x1 0 0 (Int64.ofNat f) (x6 / 2 - 29) 0 <;> rfl
    · rw [if_neg (by rw [r0]; exact c)]
      show ev_k sX16_root _ = (fX16_rounded x1 0 0 (Int64.ofNat f) (x6 / 2 - 29) (bI (decide (r ≠ 0)))).bind _
      rw [decide_eq_true c, show bI true = 1 from rfl]
      cases fX16_rounded x1 0 0 (Int64.ofNat f) (x6 / 2 - 29) 1 <;> rfl
  | succ n ih =>
    intro r f hn hr hf
    have p1 : 2 ^ (58 - n) = 2 * 2 ^ (58 - (n + 1)) := by
      rw [show 58 - n = 58 - (n + 1) + 1 by omega, Nat.pow_succ, Nat.mul_comm]
    have p2 : 2 ^ (58 - (n + 1)) ≤ 2 ^ 57 := Nat.pow_le_pow_right (by decide) (by omega)
    have p3 : (2 : Nat) ^ 57 = 144115188075855872 := rfl
    have d := dg_lt m (n + 1)
    have l1 : ¬ Int32.ofInt (((n + 1 : Nat) : Int) - 30) ≤ (-30 : Int32) := by
      rw [show (-30 : Int32) = Int32.ofInt (-30) by decide, zz_le (by omega) (by omega) (by omega) (by omega)]
      omega
    have e5 : Int32.ofInt (((n + 1 : Nat) : Int) - 30) + -1 = Int32.ofInt ((n : Int) - 30) := by
      rw [m3_1, zz_ng, zz_ad]
      congr 1
      omega
    have o1 := jr_o3 (a := f) (b := 1) (by omega) (by decide)
    have o2 := jr_o3 (a := r) (b := dg m (n + 1)) (by omega) d
    have e1 : r * 4 = 4 * r := Nat.mul_comm _ _
    have e2 : f * 4 = 4 * f := Nat.mul_comm _ _
    have e3 : f * 2 = 2 * f := Nat.mul_comm _ _
    rw [e2] at o1
    have dig : (if (0 : Int32) ≤ Int32.ofInt (((n + 1 : Nat) : Int) - 30) then (Int64.ofNat (r * 4) ||| (((Int64.ofNat m).toUInt64 >>> ((2 * Int32.ofInt (((n + 1 : Nat) : Int) - 30)).toInt64.toUInt64 &&& Int64.toUInt64 63)).toInt64 &&& 3)) else (Int64.ofNat (r * 4) ||| 0)) = Int64.ofNat (4 * r + dg m (n + 1)) := by
      by_cases c : 30 ≤ n + 1
      · rw [if_pos (by rw [m3_0, zz_le (by omega) (by omega) (by omega) (by omega)]; omega), jr_d hm c hn, o2, e1]
      · have z : dg m (n + 1) = 0 := by unfold dg; rw [if_pos (by omega)]
        rw [if_neg (by rw [m3_0, zz_le (by omega) (by omega) (by omega) (by omega)]; omega), z, Int64.or_zero, e1, Nat.add_zero]
    have lt : (Int64.ofNat (4 * r + dg m (n + 1)) < Int64.ofNat (4 * f + 1)) = (4 * r + dg m (n + 1) < 4 * f + 1) := ll_lt (by omega) (by omega)
    rw [ev_lm, aX16_root_1]
    unfold tX16_root_117 rt
    rw [if_neg l1, show (1 : Int64) = Int64.ofNat 1 from rfl]
    by_cases c : 4 * r + dg m (n + 1) < 4 * f + 1
    · have i := ih (4 * r + dg m (n + 1)) (2 * f) (by omega) (by omega) (by omega)
      rw [if_pos c, ← i]
      by_cases c0 : (0 : Int32) ≤ Int32.ofInt (((n + 1 : Nat) : Int) - 30)
      · rw [if_pos c0] at dig
        simp only [c0, if_true, jr_let, jr_2, jr_1, dig, o1, e2, e3, lt, c, e5, jr_kl]
      · rw [if_neg c0] at dig
        simp only [c0, if_false, jr_let, jr_2, jr_1, dig, o1, e2, e3, lt, c, if_true, e5, jr_kl]
    · have i := ih (4 * r + dg m (n + 1) - (4 * f + 1)) (2 * f + 1) (by omega) (by omega) (by omega)
      have sb := ll_sb (m := 4 * r + dg m (n + 1)) (n := 4 * f + 1) (by omega)
      rw [if_neg c, ← i]
      by_cases c0 : (0 : Int32) ≤ Int32.ofInt (((n + 1 : Nat) : Int) - 30)
      · rw [if_pos c0] at dig
        simp only [c0, if_true, jr_let, jr_2, jr_1, dig, o1, e2, e3, lt, c, if_false, sb, ll_ad, e5, jr_kl]
      · rw [if_neg c0] at dig
        simp only [c0, if_false, jr_let, jr_2, jr_1, dig, o1, e2, e3, lt, c, sb, ll_ad, e5, jr_kl]
theorem jr_c (x0 x3 : Int32) {m : Nat} (hm : m < 18446744073709551616) : ∀ (n r f : Nat), n ≤ 58 → r ≤ 2 * f → f < 2 ^ (58 - n) → pm_lim sX8_root (x0, x3, Int64.ofNat m, Int64.ofNat f, Int64.ofNat r, Int32.ofInt ((n : Int) - 30)) = some (fX8_round x0 0 (Int64.ofNat (od (rt m n r f).2 (decide ((rt m n r f).1 ≠ 0)))) (x3 / 2 - 29)) := by
  intro n
  induction n with
  | zero =>
    intro r f hn hr hf
    rw [Nat.sub_zero] at hf
    have hf2 : f < 288230376151711744 := hf
    have l : Int32.ofInt (((0 : Nat) : Int) - 30) ≤ (-30 : Int32) := by decide
    have r0 : (Int64.ofNat r = 0) = (r = 0) := by rw [n6_0, jl_eq (by omega) (by decide)]
    rw [ev_lm, aX8_root_0]
    unfold tX8_root_71 rt
    rw [if_pos l]
    show _ = some (fX8_round x0 0 (Int64.ofNat (od f (decide (r ≠ 0)))) (x3 / 2 - 29))
    unfold od
    by_cases c : r = 0
    · rw [if_pos (by rw [r0]; exact c), if_neg (fun w => by simp [c] at w), jr_let, jr_kr]
    · rw [if_neg (by rw [r0]; exact c), show (1 : Int64) = Int64.ofNat 1 from rfl]
      by_cases d : f % 2 = 0
      · rw [if_pos ⟨by simp [c], d⟩, jl_o1 (by omega) d, jr_let, jr_kr]
      · rw [if_neg (fun w => d w.2), jl_o2 (by omega) (by omega), jr_let, jr_kr]
  | succ n ih =>
    intro r f hn hr hf
    have p1 : 2 ^ (58 - n) = 2 * 2 ^ (58 - (n + 1)) := by
      rw [show 58 - n = 58 - (n + 1) + 1 by omega, Nat.pow_succ, Nat.mul_comm]
    have p2 : 2 ^ (58 - (n + 1)) ≤ 2 ^ 57 := Nat.pow_le_pow_right (by decide) (by omega)
    have p3 : (2 : Nat) ^ 57 = 144115188075855872 := rfl
    have d := dg_lt m (n + 1)
    have l1 : ¬ Int32.ofInt (((n + 1 : Nat) : Int) - 30) ≤ (-30 : Int32) := by
      rw [show (-30 : Int32) = Int32.ofInt (-30) by decide, zz_le (by omega) (by omega) (by omega) (by omega)]
      omega
    have e5 : Int32.ofInt (((n + 1 : Nat) : Int) - 30) + -1 = Int32.ofInt ((n : Int) - 30) := by
      rw [m3_1, zz_ng, zz_ad]
      congr 1
      omega
    have o1 := jr_o3 (a := f) (b := 1) (by omega) (by decide)
    have o2 := jr_o3 (a := r) (b := dg m (n + 1)) (by omega) d
    have o3 := jl_o1 (a := 2 * f) (by omega) (by omega)
    have e1 : r * 4 = 4 * r := Nat.mul_comm _ _
    have e2 : f * 4 = 4 * f := Nat.mul_comm _ _
    have e3 : f * 2 = 2 * f := Nat.mul_comm _ _
    rw [e2] at o1
    have dig : (if Int32.ofInt (((n + 1 : Nat) : Int) - 30) < (0 : Int32) then (Int64.ofNat (r * 4) ||| 0) else (Int64.ofNat (r * 4) ||| (((Int64.ofNat m).toUInt64 >>> ((2 * Int32.ofInt (((n + 1 : Nat) : Int) - 30)).toInt64.toUInt64 &&& Int64.toUInt64 63)).toInt64 &&& 3))) = Int64.ofNat (4 * r + dg m (n + 1)) := by
      by_cases c : 30 ≤ n + 1
      · rw [if_neg (by rw [m3_0, zz_lt (by omega) (by omega) (by omega) (by omega)]; omega), jr_d hm c hn, o2, e1]
      · have z : dg m (n + 1) = 0 := by unfold dg; rw [if_pos (by omega)]
        rw [if_pos (by rw [m3_0, zz_lt (by omega) (by omega) (by omega) (by omega)]; omega), z, Int64.or_zero, e1, Nat.add_zero]
    have lt : (Int64.ofNat (4 * r + dg m (n + 1)) < Int64.ofNat (4 * f + 1)) = (4 * r + dg m (n + 1) < 4 * f + 1) := ll_lt (by omega) (by omega)
    rw [ev_lm, aX8_root_0]
    unfold tX8_root_71 rt
    rw [if_neg l1, show (1 : Int64) = Int64.ofNat 1 from rfl]
    by_cases c : 4 * r + dg m (n + 1) < 4 * f + 1
    · have i := ih (4 * r + dg m (n + 1)) (2 * f) (by omega) (by omega) (by omega)
      rw [if_pos c, ← i]
      by_cases c0 : Int32.ofInt (((n + 1 : Nat) : Int) - 30) < (0 : Int32)
      · rw [if_pos c0] at dig
        simp only [c0, if_true, jr_let, jr_2, jr_1, dig, o1, e2, e3, lt, c, e5, jr_kl]
      · rw [if_neg c0] at dig
        simp only [c0, if_false, jr_let, jr_2, jr_1, dig, o1, e2, e3, lt, c, if_true, e5, jr_kl]
    · have i := ih (4 * r + dg m (n + 1) - (4 * f + 1)) (2 * f + 1) (by omega) (by omega) (by omega)
      have sb := ll_sb (m := 4 * r + dg m (n + 1)) (n := 4 * f + 1) (by omega)
      rw [if_neg c, ← i]
      by_cases c0 : Int32.ofInt (((n + 1 : Nat) : Int) - 30) < (0 : Int32)
      · rw [if_pos c0] at dig
        simp only [c0, if_true, jr_let, jr_2, jr_1, dig, o1, o3, e2, e3, lt, c, if_false, sb, e5, jr_kl]
      · rw [if_neg c0] at dig
        simp only [c0, if_false, jr_let, jr_2, jr_1, dig, o1, o3, e2, e3, lt, c, sb, e5, jr_kl]
theorem zz_tdiv {e : Int} (h1 : -2147483648 < e) (h2 : e < 2147483648) : Int32.ofInt e / 2 = Int32.ofInt (if 0 ≤ e then e / 2 else -((-e) / 2)) := by
  apply Int32.toInt.inj
  rw [Int32.toInt_div_of_ne_right _ _ (by decide), zz_ti (by omega) h2, show (2 : Int32).toInt = 2 by decide]
  by_cases c : 0 ≤ e
  · rw [if_pos c, Int.tdiv_eq_ediv_of_nonneg c, zz_ti (by omega) (by omega)]
  · rw [if_neg c, zz_ti (by omega) (by omega)]
    have := Int.neg_tdiv (-e) 2
    rw [Int.neg_neg] at this
    rw [this, Int.tdiv_eq_ediv_of_nonneg (by omega)]
theorem zz_on (e : Int) : Int32.ofInt e = Int32.ofNat (e % 4294967296).toNat := by
  apply Int32.toBitVec_inj.mp
  apply BitVec.eq_of_toNat_eq
  show (BitVec.ofInt 32 e).toNat = (BitVec.ofNat 32 _).toNat
  rw [BitVec.toNat_ofInt, BitVec.toNat_ofNat]
  show (e % 4294967296).toNat = (e % 4294967296).toNat % 4294967296
  rw [Nat.mod_eq_of_lt (by omega)]
theorem zz_odd (e : Int) : (Int32.ofInt e &&& 1 = 0) = (e % 2 = 0) := by
  rw [zz_on, show (1 : Int32) = Int32.ofNat 1 from rfl, nn_m1, show (0 : Int32) = Int32.ofNat 0 from rfl, jn_eq (by omega) (by decide)]
  exact propext ⟨fun z => by omega, fun z => by omega⟩
