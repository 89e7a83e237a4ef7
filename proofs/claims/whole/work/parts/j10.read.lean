/-! NUMBERS: what the reference reads of a floating value -/
def rv (h : pm_H) (a : Nat) (g : Bool) (so w : Nat) (p : Int) : pm_H := pm_setI (pm_setL (pm_setI (pm_setI h a 0 (bI g)) a 1 (Int32.ofInt so)) a 2 (Int64.ofNat w)) a 3 (Int32.ofInt p)
theorem mf2_e {X : Nat} (h : X < 4294967296) : ((Int64.ofNat X >>> ((23 : Int32).toInt64 &&& 63)).toInt32 &&& 255) = Int32.ofInt (ex2 X) := by
  rw [show ((23 : Int32).toInt64 &&& 63) = Int64.ofNat 23 by decide, ll_sr (by omega) (by decide), ll_t3, n3_255, nn_m255, zz_n]
  unfold ex2
  congr 2
  omega
theorem mf3_e {X : Nat} (h : X < 18446744073709551616) : ((Int64.ofNat X >>> ((52 : Int32).toInt64 &&& 63)).toInt32 &&& 2047) = Int32.ofInt (ex3 X) := by
  rw [show ((52 : Int32).toInt64 &&& 63) = Int64.ofNat 52 by decide, show (2047 : Int32) = Int32.ofNat (2 ^ 11 - 1) by decide]
  unfold ex3
  by_cases c : X < 9223372036854775808
  · rw [ll_sr c (by decide), ll_t3, nn_mk _ _ (by decide), zz_n]
    congr 2
    omega
  · rw [jl_sar52 (by omega) h, ll_t3, nn_mk _ _ (by decide), zz_n, show (X / 4503599627370496 + 18446744073709547520) % 2 ^ 11 = X % 9223372036854775808 / 4503599627370496 by omega]
theorem mf2_s {X : Nat} (h : X < 4294967296) : ((Int64.ofNat X >>> ((31 : Int32).toInt64 &&& 63)) &&& 1 = 1) = (ng2 X = true) := by
  rw [show ((31 : Int32).toInt64 &&& 63) = Int64.ofNat 31 by decide, ll_sr (by omega) (by decide), n6_1, ll_m1, jl_eq (by omega) (by decide)]
  unfold ng2
  rw [decide_eq_true_eq]
  exact propext ⟨fun z => by omega, fun z => by omega⟩
theorem mf3_s {X : Nat} (h : X < 18446744073709551616) : ((Int64.ofNat X >>> ((63 : Int32).toInt64 &&& 63)) &&& 1 = 1) = (ng3 X = true) := by
  rw [show ((63 : Int32).toInt64 &&& 63) = Int64.ofNat 63 by decide, n6_1]
  unfold ng3
  rw [decide_eq_true_eq]
  by_cases c : X < 9223372036854775808
  · rw [ll_sr c (by decide), ll_m1, jl_eq (by omega) (by decide)]
    exact propext ⟨fun z => by omega, fun z => by omega⟩
  · rw [jl_sar63 (by omega) h]
    exact propext ⟨fun z => by omega, fun z => by decide⟩
theorem mf2_f (X : Nat) : Int64.ofNat X &&& (((1 : Int64) <<< ((23 : Int32).toInt64 &&& 63)) - 1) = Int64.ofNat (fr2 X) := by
  rw [show (((1 : Int64) <<< ((23 : Int32).toInt64 &&& 63)) - 1) = Int64.ofNat (2 ^ 23 - 1) by decide +kernel, ll_mk _ _ (by decide)]
  rfl
theorem mf2_o (X : Nat) : Int64.ofNat (fr2 X) ||| ((1 : Int64) <<< ((23 : Int32).toInt64 &&& 63)) = Int64.ofNat (fr2 X + 8388608) := by
  rw [show ((1 : Int64) <<< ((23 : Int32).toInt64 &&& 63)) = Int64.ofNat (1 * 2 ^ 23) by decide +kernel, jl_oc, jl_o (by unfold fr2; omega) (by unfold fr2; omega)]
  congr 1
  omega
theorem mf2 {h : pm_H} {a X : Nat} (k : pm_kd h a = 15) (hX : X < 4294967296) : fX15_read h a 2 (Int64.ofNat X) = some (rv h a (ng2 X) (so2 X) (wh2 X) (pw2 X)) := by
  have xb : ex2 X < 4096 := by unfold ex2; omega
  have fb : fr2 X < 8388608 := by unfold fr2; omega
  have xs : X % 2147483648 = ex2 X * 8388608 + fr2 X := by unfold ex2 fr2; omega
  have e0 : (Int32.ofInt (ex2 X) = 0) = (ex2 X = 0) := by
    rw [m3_0, zz_eq (by omega) (by omega) (by omega) (by omega)]
    exact propext ⟨fun z => by omega, fun z => by omega⟩
  have eh : (Int32.ofInt (ex2 X) = 255) = (ex2 X = 255) := by
    rw [m3_255, zz_eq (by omega) (by omega) (by omega) (by omega)]
    exact propext ⟨fun z => by omega, fun z => by omega⟩
  have f0 : (Int64.ofNat (fr2 X) = 0) = (fr2 X = 0) := by rw [n6_0, jl_eq (by omega) (by decide)]
  have k' : ∀ {h' : pm_H}, pm_kd h' = pm_kd h → pm_kd h' a = 15 := fun e => by rw [e]; exact k
  unfold fX15_read fX15_read_b12 fX15_read_b28 fX15_read_b64
  simp only [eq_self, if_true, if_false, jr_let, mf2_f, mf2_e hX, mf2_s hX]
  have key : ∀ g : Bool, fX15_read_b77 h a 2 23 255 (Int64.ofNat (fr2 X)) (Int32.ofInt (ex2 X)) (bI g) a = some (rv h a g (so2 X) (wh2 X) (pw2 X)) := by
    intro g
    have g01 : bI g = 0 ∨ bI g = 1 := by cases g <;> simp [bI]
    unfold fX15_read_b77 fX15_read_b120 fX15_read_b141 rv so2 wh2 pw2
    simp only [k, g01, if_true, e0, eh, f0, xs, jr_let, eq_self, if_false, ev_kdI, ev_kdL, mf2_o]
    by_cases c1 : ex2 X = 255
    · by_cases c2 : fr2 X = 0
      · simp (disch := omega) only [c1, c2, ↓reduceIte, jr_kl, jr_kr, ↓jr_let, jr_bs, and_true, true_and, and_false, false_and, or_true, true_or, or_false, false_or, not_true_eq_false, not_false_eq_true, b_let, b_lef, b_ltt, b_ltf, b_eqt, b_eqf, bz_let, bz_lef, bz_ltt, bz_ltf, bz_eqt, bz_eqf, Nat.reducePow, Nat.reduceMul, Nat.reduceAdd, Nat.reduceSub, Nat.reduceMod, Nat.reduceDiv, Int.reduceAdd, Int.reduceSub, Int.reduceMul, Int.reduceNeg, Int.reduceToNat, Int.toNat_natCast, zz_sb, m3_1, m3_150, m3_1075]
        rfl
      · simp (disch := omega) only [c1, c2, ↓reduceIte, jr_kl, jr_kr, ↓jr_let, jr_bs, and_true, true_and, and_false, false_and, or_true, true_or, or_false, false_or, not_true_eq_false, not_false_eq_true, b_let, b_lef, b_ltt, b_ltf, b_eqt, b_eqf, bz_let, bz_lef, bz_ltt, bz_ltf, bz_eqt, bz_eqf, Nat.reducePow, Nat.reduceMul, Nat.reduceAdd, Nat.reduceSub, Nat.reduceMod, Nat.reduceDiv, Int.reduceAdd, Int.reduceSub, Int.reduceMul, Int.reduceNeg, Int.reduceToNat, Int.toNat_natCast, zz_sb, m3_1, m3_150, m3_1075]
        rfl
    · by_cases c3 : ex2 X = 0
      · by_cases c2 : fr2 X = 0
        · simp (disch := omega) only [c3, c2, ↓reduceIte, jr_kl, jr_kr, ↓jr_let, jr_bs, and_true, true_and, and_false, false_and, or_true, true_or, or_false, false_or, not_true_eq_false, not_false_eq_true, b_let, b_lef, b_ltt, b_ltf, b_eqt, b_eqf, bz_let, bz_lef, bz_ltt, bz_ltf, bz_eqt, bz_eqf, Nat.reducePow, Nat.reduceMul, Nat.reduceAdd, Nat.reduceSub, Nat.reduceMod, Nat.reduceDiv, Int.reduceAdd, Int.reduceSub, Int.reduceMul, Int.reduceNeg, Int.reduceToNat, Int.toNat_natCast, zz_sb, m3_1, m3_150, m3_1075]
          rfl
        · simp (disch := omega) only [c3, c2, ↓reduceIte, jr_kl, jr_kr, ↓jr_let, jr_bs, and_true, true_and, and_false, false_and, or_true, true_or, or_false, false_or, not_true_eq_false, not_false_eq_true, b_let, b_lef, b_ltt, b_ltf, b_eqt, b_eqf, bz_let, bz_lef, bz_ltt, bz_ltf, bz_eqt, bz_eqf, Nat.reducePow, Nat.reduceMul, Nat.reduceAdd, Nat.reduceSub, Nat.reduceMod, Nat.reduceDiv, Int.reduceAdd, Int.reduceSub, Int.reduceMul, Int.reduceNeg, Int.reduceToNat, Int.toNat_natCast, zz_sb, m3_1, m3_150, m3_1075]
          rfl
      · simp (disch := omega) only [c1, c3, ↓reduceIte, jr_kl, jr_kr, ↓jr_let, jr_bs, and_true, true_and, and_false, false_and, or_true, true_or, or_false, false_or, not_true_eq_false, not_false_eq_true, b_let, b_lef, b_ltt, b_ltf, b_eqt, b_eqf, bz_let, bz_lef, bz_ltt, bz_ltf, bz_eqt, bz_eqf, Nat.reducePow, Nat.reduceMul, Nat.reduceAdd, Nat.reduceSub, Nat.reduceMod, Nat.reduceDiv, Int.reduceAdd, Int.reduceSub, Int.reduceMul, Int.reduceNeg, Int.reduceToNat, Int.toNat_natCast, zz_sb, m3_1, m3_150, m3_1075]
        rw [show ((ex2 X : Int) + (-149) - 1) = (ex2 X : Int) - 150 by omega]
        rfl
  by_cases g : ng2 X = true
  · rw [if_pos g, g]
    exact key true
  · rw [if_neg g, Bool.eq_false_iff.mpr g]
    exact key false
theorem mf3_f (X : Nat) : Int64.ofNat X &&& (((1 : Int64) <<< ((52 : Int32).toInt64 &&& 63)) - 1) = Int64.ofNat (fr3 X) := by
  rw [show (((1 : Int64) <<< ((52 : Int32).toInt64 &&& 63)) - 1) = Int64.ofNat (2 ^ 52 - 1) by decide +kernel, ll_mk _ _ (by decide)]
  rfl
theorem mf3_o (X : Nat) : Int64.ofNat (fr3 X) ||| ((1 : Int64) <<< ((52 : Int32).toInt64 &&& 63)) = Int64.ofNat (fr3 X + 4503599627370496) := by
  rw [show ((1 : Int64) <<< ((52 : Int32).toInt64 &&& 63)) = Int64.ofNat (1 * 2 ^ 52) by decide +kernel, jl_oc, jl_o (by unfold fr3; omega) (by unfold fr3; omega)]
  congr 1
  omega
theorem mf3 {h : pm_H} {a X : Nat} (k : pm_kd h a = 15) (hX : X < 18446744073709551616) : fX15_read h a 3 (Int64.ofNat X) = some (rv h a (ng3 X) (so3 X) (wh3 X) (pw3 X)) := by
  have xb : ex3 X < 4096 := by unfold ex3; omega
  have fb : fr3 X < 4503599627370496 := by unfold fr3; omega
  have xs : X % 9223372036854775808 = ex3 X * 4503599627370496 + fr3 X := by unfold ex3 fr3; omega
  have e0 : (Int32.ofInt (ex3 X) = 0) = (ex3 X = 0) := by
    rw [m3_0, zz_eq (by omega) (by omega) (by omega) (by omega)]
    exact propext ⟨fun z => by omega, fun z => by omega⟩
  have eh : (Int32.ofInt (ex3 X) = 2047) = (ex3 X = 2047) := by
    rw [m3_2047, zz_eq (by omega) (by omega) (by omega) (by omega)]
    exact propext ⟨fun z => by omega, fun z => by omega⟩
  have f0 : (Int64.ofNat (fr3 X) = 0) = (fr3 X = 0) := by rw [n6_0, jl_eq (by omega) (by decide)]
  have k' : ∀ {h' : pm_H}, pm_kd h' = pm_kd h → pm_kd h' a = 15 := fun e => by rw [e]; exact k
  unfold fX15_read fX15_read_b12 fX15_read_b28 fX15_read_b64
  simp only [show ((3 : Int32) = 2) = False from eq_false (by decide), if_true, if_false, jr_let, mf3_f, mf3_e hX, mf3_s hX]
  have key : ∀ g : Bool, fX15_read_b77 h a 3 52 2047 (Int64.ofNat (fr3 X)) (Int32.ofInt (ex3 X)) (bI g) a = some (rv h a g (so3 X) (wh3 X) (pw3 X)) := by
    intro g
    have g01 : bI g = 0 ∨ bI g = 1 := by cases g <;> simp [bI]
    unfold fX15_read_b77 fX15_read_b120 fX15_read_b141 rv so3 wh3 pw3
    simp only [k, g01, if_true, e0, eh, f0, xs, jr_let, show ((3 : Int32) = 2) = False from eq_false (by decide), if_false, ev_kdI, ev_kdL, mf3_o]
    by_cases c1 : ex3 X = 2047
    · by_cases c2 : fr3 X = 0
      · simp (disch := omega) only [c1, c2, ↓reduceIte, jr_kl, jr_kr, ↓jr_let, jr_bs, and_true, true_and, and_false, false_and, or_true, true_or, or_false, false_or, not_true_eq_false, not_false_eq_true, b_let, b_lef, b_ltt, b_ltf, b_eqt, b_eqf, bz_let, bz_lef, bz_ltt, bz_ltf, bz_eqt, bz_eqf, Nat.reducePow, Nat.reduceMul, Nat.reduceAdd, Nat.reduceSub, Nat.reduceMod, Nat.reduceDiv, Int.reduceAdd, Int.reduceSub, Int.reduceMul, Int.reduceNeg, Int.reduceToNat, Int.toNat_natCast, zz_sb, m3_1, m3_150, m3_1075]
        rfl
      · simp (disch := omega) only [c1, c2, ↓reduceIte, jr_kl, jr_kr, ↓jr_let, jr_bs, and_true, true_and, and_false, false_and, or_true, true_or, or_false, false_or, not_true_eq_false, not_false_eq_true, b_let, b_lef, b_ltt, b_ltf, b_eqt, b_eqf, bz_let, bz_lef, bz_ltt, bz_ltf, bz_eqt, bz_eqf, Nat.reducePow, Nat.reduceMul, Nat.reduceAdd, Nat.reduceSub, Nat.reduceMod, Nat.reduceDiv, Int.reduceAdd, Int.reduceSub, Int.reduceMul, Int.reduceNeg, Int.reduceToNat, Int.toNat_natCast, zz_sb, m3_1, m3_150, m3_1075]
        rfl
    · by_cases c3 : ex3 X = 0
      · by_cases c2 : fr3 X = 0
        · simp (disch := omega) only [c3, c2, ↓reduceIte, jr_kl, jr_kr, ↓jr_let, jr_bs, and_true, true_and, and_false, false_and, or_true, true_or, or_false, false_or, not_true_eq_false, not_false_eq_true, b_let, b_lef, b_ltt, b_ltf, b_eqt, b_eqf, bz_let, bz_lef, bz_ltt, bz_ltf, bz_eqt, bz_eqf, Nat.reducePow, Nat.reduceMul, Nat.reduceAdd, Nat.reduceSub, Nat.reduceMod, Nat.reduceDiv, Int.reduceAdd, Int.reduceSub, Int.reduceMul, Int.reduceNeg, Int.reduceToNat, Int.toNat_natCast, zz_sb, m3_1, m3_150, m3_1075]
          rfl
        · simp (disch := omega) only [c3, c2, ↓reduceIte, jr_kl, jr_kr, ↓jr_let, jr_bs, and_true, true_and, and_false, false_and, or_true, true_or, or_false, false_or, not_true_eq_false, not_false_eq_true, b_let, b_lef, b_ltt, b_ltf, b_eqt, b_eqf, bz_let, bz_lef, bz_ltt, bz_ltf, bz_eqt, bz_eqf, Nat.reducePow, Nat.reduceMul, Nat.reduceAdd, Nat.reduceSub, Nat.reduceMod, Nat.reduceDiv, Int.reduceAdd, Int.reduceSub, Int.reduceMul, Int.reduceNeg, Int.reduceToNat, Int.toNat_natCast, zz_sb, m3_1, m3_150, m3_1075]
          rfl
      · simp (disch := omega) only [c1, c3, ↓reduceIte, jr_kl, jr_kr, ↓jr_let, jr_bs, and_true, true_and, and_false, false_and, or_true, true_or, or_false, false_or, not_true_eq_false, not_false_eq_true, b_let, b_lef, b_ltt, b_ltf, b_eqt, b_eqf, bz_let, bz_lef, bz_ltt, bz_ltf, bz_eqt, bz_eqf, Nat.reducePow, Nat.reduceMul, Nat.reduceAdd, Nat.reduceSub, Nat.reduceMod, Nat.reduceDiv, Int.reduceAdd, Int.reduceSub, Int.reduceMul, Int.reduceNeg, Int.reduceToNat, Int.toNat_natCast, zz_sb, m3_1, m3_150, m3_1075]
        rw [show ((ex3 X : Int) + (-1074) - 1) = (ex3 X : Int) - 1075 by omega]
        rfl
  by_cases g : ng3 X = true
  · rw [if_pos g, g]
    exact key true
  · rw [if_neg g, Bool.eq_false_iff.mpr g]
    exact key false
