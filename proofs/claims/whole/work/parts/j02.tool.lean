/-! NUMBERS: tools for evaluation; how many bits a number has, as the programs count it -/
theorem jr_let {α β : Type} (e : α) (k : α → β) : pm_let e k = k e := (rfl)
theorem jr_bs {α β : Type} (v : α) (k : α → Option β) : (some v).bind k = k v := (rfl)
theorem jr_kl {σ ρ : Type} (s : σ → Option (σ ⊕ ρ)) (y : σ) : ev_k s (some (.inl y)) = pm_lim s y := (rfl)
theorem jr_kr {σ ρ : Type} (s : σ → Option (σ ⊕ ρ)) (r : ρ) : ev_k s (some (.inr r)) = some r := (rfl)
theorem bz_let {m n : Int} (h : m ≤ n) : (m ≤ n) = True := eq_true h
theorem bz_lef {m n : Int} (h : ¬ m ≤ n) : (m ≤ n) = False := eq_false h
theorem bz_ltt {m n : Int} (h : m < n) : (m < n) = True := eq_true h
theorem bz_ltf {m n : Int} (h : ¬ m < n) : (m < n) = False := eq_false h
theorem bz_eqt {m n : Int} (h : m = n) : (m = n) = True := eq_true h
theorem bz_eqf {m n : Int} (h : ¬ m = n) : (m = n) = False := eq_false h
theorem zz_tn {a : Int} (h1 : 0 ≤ a) (h2 : a < 2147483648) : (Int32.ofInt a).toInt64 = Int64.ofNat a.toNat := by
  obtain ⟨k, rfl⟩ : ∃ k : Nat, a = k := ⟨a.toNat, by omega⟩
  rw [zz_t6 (by omega) h2, jl_n]
  rfl
theorem ll_m1 (x : Nat) : Int64.ofNat x &&& Int64.ofNat 1 = Int64.ofNat (x % 2) := ll_mk x 1 (by decide)
theorem jl_u63 {k : Nat} (h : k < 64) : (Int64.ofNat k).toUInt64 &&& Int64.toUInt64 (Int64.ofNat 63) = (Int64.ofNat k).toUInt64 := by
  rw [← Int64.toUInt64_and, ll_m63, Nat.mod_eq_of_lt h]
theorem jl_63 {k : Nat} (h : k < 64) : Int64.ofNat k &&& Int64.ofNat 63 = Int64.ofNat k := by rw [ll_m63, Nat.mod_eq_of_lt h]
theorem zz_an (a : Int) (n : Nat) : Int32.ofInt a + -Int32.ofNat n = Int32.ofInt (a - n) := by
  rw [zz_n, zz_ng, zz_ad, Int.sub_eq_add_neg]
theorem zz_sn (a : Int) (n : Nat) : Int32.ofInt a - Int32.ofNat n = Int32.ofInt (a - n) := by
  rw [zz_n, zz_sb]
theorem zz_na (a : Int) (n : Nat) : Int32.ofNat n + Int32.ofInt a = Int32.ofInt (n + a) := by
  rw [zz_n, zz_ad]
theorem jn_us {x k : Nat} (hx : x < 4294967296) (hk : k < 32) : ((Int32.ofNat x).toUInt32 >>> ((Int32.ofNat k).toUInt32 &&& Int32.toUInt32 (Int32.ofNat 31))).toInt32 = Int32.ofNat (x / 2 ^ k) := by
  rw [← Int32.toUInt32_and, nn_m31, Nat.mod_eq_of_lt hk]
  apply Int32.toBitVec_inj.mp
  apply BitVec.eq_of_toNat_eq
  show ((BitVec.ofNat 32 x) >>> (BitVec.ofNat 32 k % 32#32)).toNat = (BitVec.ofNat 32 (x / 2 ^ k)).toNat
  have e : BitVec.ofNat 32 k % 32#32 = BitVec.ofNat 32 k := by
    apply BitVec.eq_of_toNat_eq
    rw [BitVec.toNat_umod, BitVec.toNat_ofNat, BitVec.toNat_ofNat, Nat.mod_eq_of_lt (show k < 2 ^ 32 by omega)]
    exact Nat.mod_eq_of_lt hk
  rw [e, BitVec.ushiftRight_eq', BitVec.toNat_ushiftRight, BitVec.toNat_ofNat, BitVec.toNat_ofNat, BitVec.toNat_ofNat, Nat.mod_eq_of_lt (show k < 2 ^ 32 by omega), Nat.mod_eq_of_lt (show x < 2 ^ 32 by omega), Nat.shiftRight_eq_div_pow, Nat.mod_eq_of_lt (Nat.lt_of_le_of_lt (Nat.div_le_self _ _) (by omega))]
theorem jn_wrap (x : Nat) : Int32.ofNat x = Int32.ofNat (x % 4294967296) := by
  apply Int32.toBitVec_inj.mp
  apply BitVec.eq_of_toNat_eq
  show (BitVec.ofNat 32 x).toNat = (BitVec.ofNat 32 _).toNat
  rw [BitVec.toNat_ofNat, BitVec.toNat_ofNat, Nat.mod_mod]
theorem jn_tn {x : Nat} (hx : x < 4294967296) : (Int32.ofNat x).toBitVec.toNat = x := by
  show (BitVec.ofNat 32 x).toNat = x
  rw [BitVec.toNat_ofNat]
  exact Nat.mod_eq_of_lt (by omega)
theorem jn_eq {m n : Nat} (hm : m < 4294967296) (hn : n < 4294967296) : (Int32.ofNat m = Int32.ofNat n) = (m = n) := propext ⟨fun e => by
  have := congrArg (fun x => x.toBitVec.toNat) e
  rwa [jn_tn hm, jn_tn hn] at this, fun e => by rw [e]⟩
theorem jn_neg {x : Nat} (h1 : 2147483648 ≤ x) (h2 : x < 4294967296) : Int32.ofNat x < 0 := by
  rw [Int32.lt_iff_toInt_lt, Int32.toInt_zero, ← Int32.toInt_toBitVec, BitVec.toInt_eq_toNat_cond, jn_tn h2, if_neg (by omega)]
  omega
theorem nl_s4 {a : Nat} (h1 : 1 ≤ a) (h2 : a < 16) : (nl a : Int) = if a < 4 then (a / 2 : Nat) + 1 else (a / 4 / 2 : Nat) + 3 := by
  have key : ∀ a : Fin 16, 1 ≤ a.val → (nl a.val : Int) = if a.val < 4 then (a.val / 2 : Nat) + 1 else (a.val / 4 / 2 : Nat) + 3 := by decide
  exact key ⟨a, h2⟩ h1
theorem jn_b61 {a : Nat} (c : Int) (h1 : 1 ≤ a) (h2 : a < 16) : fJ6_numberOfLeadingZeros_0f7a4_b61 (Int32.ofNat a) (Int32.ofInt c) = Int32.ofInt (c - nl a + 1) := by
  rw [nl_s4 h1 h2]
  unfold fJ6_numberOfLeadingZeros_0f7a4_b61
  by_cases d : a < 4
  · simp (disch := omega) only [nn_lt, jn_us, zz_sn, zz_an, n3_1, n3_2, n3_4, n3_31, ↓reduceIte, jr_kl, jr_kr, ↓jr_let, jr_bs, and_true, true_and, and_false, false_and, or_true, true_or, or_false, false_or, not_true_eq_false, not_false_eq_true, b_let, b_lef, b_ltt, b_ltf, b_eqt, b_eqf, bz_let, bz_lef, bz_ltt, bz_ltf, bz_eqt, bz_eqf, Nat.reducePow, Nat.reduceMul, Nat.reduceAdd, Nat.reduceSub, Nat.reduceMod, Nat.reduceDiv, Int.reduceAdd, Int.reduceSub, Int.reduceMul, Int.reduceNeg, Int.reduceToNat, Int.toNat_natCast]
    congr 1; omega
  · simp (disch := omega) only [nn_lt, jn_us, zz_sn, zz_an, n3_1, n3_2, n3_4, n3_31, ↓reduceIte, jr_kl, jr_kr, ↓jr_let, jr_bs, and_true, true_and, and_false, false_and, or_true, true_or, or_false, false_or, not_true_eq_false, not_false_eq_true, b_let, b_lef, b_ltt, b_ltf, b_eqt, b_eqf, bz_let, bz_lef, bz_ltt, bz_ltf, bz_eqt, bz_eqf, Nat.reducePow, Nat.reduceMul, Nat.reduceAdd, Nat.reduceSub, Nat.reduceMod, Nat.reduceDiv, Int.reduceAdd, Int.reduceSub, Int.reduceMul, Int.reduceNeg, Int.reduceToNat, Int.toNat_natCast]
    congr 1; omega
theorem nl_cut {a : Nat} (k : Nat) (h : 2 ^ k ≤ a) : nl a = nl (a / 2 ^ k) + k := by
  have z : a / 2 ^ k ≠ 0 := by
    have := (Nat.le_div_iff_mul_le (Nat.two_pow_pos k)).mpr (show 1 * 2 ^ k ≤ a by omega)
    omega
  exact (nl_div z).symm
theorem jn_b48 {a : Nat} (c : Int) (h1 : 1 ≤ a) (h2 : a < 256) : fJ6_numberOfLeadingZeros_0f7a4_b48 (Int32.ofNat a) (Int32.ofInt c) = Int32.ofInt (c - nl a + 1) := by
  unfold fJ6_numberOfLeadingZeros_0f7a4_b48
  by_cases d : a < 16
  · simp (disch := omega) only [nn_lt, jn_b61, n3_4, n3_16, n3_31, ↓reduceIte, jr_kl, jr_kr, ↓jr_let, jr_bs, and_true, true_and, and_false, false_and, or_true, true_or, or_false, false_or, not_true_eq_false, not_false_eq_true, b_let, b_lef, b_ltt, b_ltf, b_eqt, b_eqf, bz_let, bz_lef, bz_ltt, bz_ltf, bz_eqt, bz_eqf, Nat.reducePow, Nat.reduceMul, Nat.reduceAdd, Nat.reduceSub, Nat.reduceMod, Nat.reduceDiv, Int.reduceAdd, Int.reduceSub, Int.reduceMul, Int.reduceNeg, Int.reduceToNat, Int.toNat_natCast]
  · have e : nl a = nl (a / 16) + 4 := nl_cut 4 (by omega)
    simp (disch := omega) only [nn_lt, jn_us, zz_an, jn_b61, n3_4, n3_16, n3_31, ↓reduceIte, jr_kl, jr_kr, ↓jr_let, jr_bs, and_true, true_and, and_false, false_and, or_true, true_or, or_false, false_or, not_true_eq_false, not_false_eq_true, b_let, b_lef, b_ltt, b_ltf, b_eqt, b_eqf, bz_let, bz_lef, bz_ltt, bz_ltf, bz_eqt, bz_eqf, Nat.reducePow, Nat.reduceMul, Nat.reduceAdd, Nat.reduceSub, Nat.reduceMod, Nat.reduceDiv, Int.reduceAdd, Int.reduceSub, Int.reduceMul, Int.reduceNeg, Int.reduceToNat, Int.toNat_natCast]
    rw [e]
    congr 1; omega
theorem jn_b33 {a : Nat} (c : Int) (h1 : 1 ≤ a) (h2 : a < 65536) : fJ6_numberOfLeadingZeros_0f7a4_b33 (Int32.ofNat a) (Int32.ofInt c) = Int32.ofInt (c - nl a + 1) := by
  unfold fJ6_numberOfLeadingZeros_0f7a4_b33
  by_cases d : a < 256
  · simp (disch := omega) only [nn_lt, jn_b48, n3_8, n3_256, n3_31, ↓reduceIte, jr_kl, jr_kr, ↓jr_let, jr_bs, and_true, true_and, and_false, false_and, or_true, true_or, or_false, false_or, not_true_eq_false, not_false_eq_true, b_let, b_lef, b_ltt, b_ltf, b_eqt, b_eqf, bz_let, bz_lef, bz_ltt, bz_ltf, bz_eqt, bz_eqf, Nat.reducePow, Nat.reduceMul, Nat.reduceAdd, Nat.reduceSub, Nat.reduceMod, Nat.reduceDiv, Int.reduceAdd, Int.reduceSub, Int.reduceMul, Int.reduceNeg, Int.reduceToNat, Int.toNat_natCast]
  · have e : nl a = nl (a / 256) + 8 := nl_cut 8 (by omega)
    simp (disch := omega) only [nn_lt, jn_us, zz_an, jn_b48, n3_8, n3_256, n3_31, ↓reduceIte, jr_kl, jr_kr, ↓jr_let, jr_bs, and_true, true_and, and_false, false_and, or_true, true_or, or_false, false_or, not_true_eq_false, not_false_eq_true, b_let, b_lef, b_ltt, b_ltf, b_eqt, b_eqf, bz_let, bz_lef, bz_ltt, bz_ltf, bz_eqt, bz_eqf, Nat.reducePow, Nat.reduceMul, Nat.reduceAdd, Nat.reduceSub, Nat.reduceMod, Nat.reduceDiv, Int.reduceAdd, Int.reduceSub, Int.reduceMul, Int.reduceNeg, Int.reduceToNat, Int.toNat_natCast]
    rw [e]
    congr 1; omega
theorem jn_lz {a : Nat} (h : a < 4294967296) : fJ6_numberOfLeadingZeros_0f7a4 (Int32.ofNat a) = Int32.ofInt (32 - nl a) := by
  by_cases d0 : a = 0
  · subst d0; decide
  unfold fJ6_numberOfLeadingZeros_0f7a4
  by_cases d : a < 2147483648
  · by_cases d2 : a < 65536
    · rw [show (31 : Int32) = Int32.ofInt 31 from rfl]
      simp (disch := omega) only [nn_lt, jn_b33, n3_0, n3_65536, ↓reduceIte, jr_kl, jr_kr, ↓jr_let, jr_bs, and_true, true_and, and_false, false_and, or_true, true_or, or_false, false_or, not_true_eq_false, not_false_eq_true, b_let, b_lef, b_ltt, b_ltf, b_eqt, b_eqf, bz_let, bz_lef, bz_ltt, bz_ltf, bz_eqt, bz_eqf, Nat.reducePow, Nat.reduceMul, Nat.reduceAdd, Nat.reduceSub, Nat.reduceMod, Nat.reduceDiv, Int.reduceAdd, Int.reduceSub, Int.reduceMul, Int.reduceNeg, Int.reduceToNat, Int.toNat_natCast]
      congr 1; omega
    · have e : nl a = nl (a / 65536) + 16 := nl_cut 16 (by omega)
      simp (disch := omega) only [nn_lt, jn_us, n3_0, n3_65536, n3_16, n3_31, ↓reduceIte, jr_kl, jr_kr, ↓jr_let, jr_bs, and_true, true_and, and_false, false_and, or_true, true_or, or_false, false_or, not_true_eq_false, not_false_eq_true, b_let, b_lef, b_ltt, b_ltf, b_eqt, b_eqf, bz_let, bz_lef, bz_ltt, bz_ltf, bz_eqt, bz_eqf, Nat.reducePow, Nat.reduceMul, Nat.reduceAdd, Nat.reduceSub, Nat.reduceMod, Nat.reduceDiv, Int.reduceAdd, Int.reduceSub, Int.reduceMul, Int.reduceNeg, Int.reduceToNat, Int.toNat_natCast]
      rw [show Int32.ofNat 31 + -Int32.ofNat 16 = Int32.ofInt 15 from rfl]
      simp (disch := omega) only [jn_b33]
      rw [e]
      congr 1; omega
  · have n := jn_neg (x := a) (by omega) h
    have w : nl a = 32 := nl_of (L := 31) (by omega) (by omega)
    have z : ¬ Int32.ofNat a = 0 := by rw [show (0 : Int32) = Int32.ofNat 0 from rfl, jn_eq h (by decide)]; exact d0
    rw [if_neg (fun q => Int32.lt_irrefl (Int32.lt_trans q n)), if_neg z, w]
    decide
theorem jl_t3 (x : Nat) : (Int64.ofNat x).toInt32 = Int32.ofNat (x % 4294967296) := by rw [ll_t3, jn_wrap]
theorem jn_lz6 {a : Nat} (h : a < 18446744073709551616) : fJ13_numberOfLeadingZeros_95d88 (Int64.ofNat a) = Int32.ofInt (64 - nl a) := by
  unfold fJ13_numberOfLeadingZeros_95d88
  rw [show (32 : Int32).toInt64 = Int64.ofNat 32 from rfl, show (63 : Int64) = Int64.ofNat 63 from rfl, jl_u63 (by decide), jl_us h (by decide), jl_t3, jl_t3]
  by_cases d : a < 4294967296
  · simp (disch := omega) only [jn_lz, jn_eq, zz_na, n3_0, n3_32, ↓reduceIte, jr_kl, jr_kr, ↓jr_let, jr_bs, and_true, true_and, and_false, false_and, or_true, true_or, or_false, false_or, not_true_eq_false, not_false_eq_true, b_let, b_lef, b_ltt, b_ltf, b_eqt, b_eqf, bz_let, bz_lef, bz_ltt, bz_ltf, bz_eqt, bz_eqf, Nat.reducePow, Nat.reduceMul, Nat.reduceAdd, Nat.reduceSub, Nat.reduceMod, Nat.reduceDiv, Int.reduceAdd, Int.reduceSub, Int.reduceMul, Int.reduceNeg, Int.reduceToNat, Int.toNat_natCast, show a / 4294967296 % 4294967296 = 0 by omega, show a % 4294967296 = a by omega]
    congr 1; omega
  · have e := nl_cut (a := a) 32 (by omega)
    rw [show a / 2 ^ 32 % 4294967296 = a / 2 ^ 32 by omega]
    have q : ¬ a / 2 ^ 32 = 0 := by omega
    have z : (Int32.ofNat (a / 2 ^ 32) = 0) = False := by rw [show (0 : Int32) = Int32.ofNat 0 from rfl, jn_eq (by omega) (by decide)]; exact eq_false q
    simp only [jr_let, z, if_false]
    rw [jn_lz (by omega), e]
    congr 1; omega
/-- the reference's count -/
theorem jm_len (x0 : Nat) (hx : x0 < 18446744073709551616) {v : Nat} (hv : v < 18446744073709551616) : ∀ (j n : Nat), n + j = nl v → pm_lim sX16_length (Int64.ofNat x0, Int32.ofInt n, Int64.ofNat v) = some (if x0 = 0 then Int32.ofInt (nl v) else Int32.ofInt (64 + nl v)) := by
  have l64 : nl v ≤ 64 := nl_le hv
  intro j
  induction j with
  | zero =>
    intro n hn
    have e : n = nl v := hn
    subst e
    by_cases c64 : nl v = 64
    · by_cases z : x0 = 0
      · rw [ev_lm, if_pos z]; simp (disch := omega) only [zz_ad, zz_sb, zz_ng, zz_ml, zz_le, zz_lt, zz_eq, zz_tn, jl_u63, jl_us, jl_63, ll_sl, ll_sr, ll_ad, ll_sb, ll_ml, ll_le, ll_lt, jl_eq, ll_m1, n6_63, n6_1, n6_0, aX16_length_0, tX16_length_16, m3_64, ↓reduceIte, jr_kl, jr_kr, ↓jr_let, jr_bs, and_true, true_and, and_false, false_and, or_true, true_or, or_false, false_or, not_true_eq_false, not_false_eq_true, b_let, b_lef, b_ltt, b_ltf, b_eqt, b_eqf, bz_let, bz_lef, bz_ltt, bz_ltf, bz_eqt, bz_eqf, Nat.reducePow, Nat.reduceMul, Nat.reduceAdd, Nat.reduceSub, Nat.reduceMod, Nat.reduceDiv, Int.reduceAdd, Int.reduceSub, Int.reduceMul, Int.reduceNeg, Int.reduceToNat, Int.toNat_natCast]
      · rw [ev_lm, if_neg z]; simp (disch := omega) only [zz_ad, zz_sb, zz_ng, zz_ml, zz_le, zz_lt, zz_eq, zz_tn, jl_u63, jl_us, jl_63, ll_sl, ll_sr, ll_ad, ll_sb, ll_ml, ll_le, ll_lt, jl_eq, ll_m1, n6_63, n6_1, n6_0, aX16_length_0, tX16_length_16, m3_64, ↓reduceIte, jr_kl, jr_kr, ↓jr_let, jr_bs, and_true, true_and, and_false, false_and, or_true, true_or, or_false, false_or, not_true_eq_false, not_false_eq_true, b_let, b_lef, b_ltt, b_ltf, b_eqt, b_eqf, bz_let, bz_lef, bz_ltt, bz_ltf, bz_eqt, bz_eqf, Nat.reducePow, Nat.reduceMul, Nat.reduceAdd, Nat.reduceSub, Nat.reduceMod, Nat.reduceDiv, Int.reduceAdd, Int.reduceSub, Int.reduceMul, Int.reduceNeg, Int.reduceToNat, Int.toNat_natCast]
    · have q : v / 2 ^ nl v = 0 := Nat.div_eq_of_lt (nl_lt v)
      by_cases z : x0 = 0
      · rw [ev_lm, if_pos z]; simp (disch := omega) only [q, zz_ad, zz_sb, zz_ng, zz_ml, zz_le, zz_lt, zz_eq, zz_tn, jl_u63, jl_us, jl_63, ll_sl, ll_sr, ll_ad, ll_sb, ll_ml, ll_le, ll_lt, jl_eq, ll_m1, n6_63, n6_1, n6_0, aX16_length_0, tX16_length_16, m3_64, ↓reduceIte, jr_kl, jr_kr, ↓jr_let, jr_bs, and_true, true_and, and_false, false_and, or_true, true_or, or_false, false_or, not_true_eq_false, not_false_eq_true, b_let, b_lef, b_ltt, b_ltf, b_eqt, b_eqf, bz_let, bz_lef, bz_ltt, bz_ltf, bz_eqt, bz_eqf, Nat.reducePow, Nat.reduceMul, Nat.reduceAdd, Nat.reduceSub, Nat.reduceMod, Nat.reduceDiv, Int.reduceAdd, Int.reduceSub, Int.reduceMul, Int.reduceNeg, Int.reduceToNat, Int.toNat_natCast]
      · rw [ev_lm, if_neg z]; simp (disch := omega) only [q, zz_ad, zz_sb, zz_ng, zz_ml, zz_le, zz_lt, zz_eq, zz_tn, jl_u63, jl_us, jl_63, ll_sl, ll_sr, ll_ad, ll_sb, ll_ml, ll_le, ll_lt, jl_eq, ll_m1, n6_63, n6_1, n6_0, aX16_length_0, tX16_length_16, m3_64, ↓reduceIte, jr_kl, jr_kr, ↓jr_let, jr_bs, and_true, true_and, and_false, false_and, or_true, true_or, or_false, false_or, not_true_eq_false, not_false_eq_true, b_let, b_lef, b_ltt, b_ltf, b_eqt, b_eqf, bz_let, bz_lef, bz_ltt, bz_ltf, bz_eqt, bz_eqf, Nat.reducePow, Nat.reduceMul, Nat.reduceAdd, Nat.reduceSub, Nat.reduceMod, Nat.reduceDiv, Int.reduceAdd, Int.reduceSub, Int.reduceMul, Int.reduceNeg, Int.reduceToNat, Int.toNat_natCast]
  | succ j ih =>
    intro n hn
    have i := ih (n + 1) (by omega)
    have v0 : v ≠ 0 := by intro z; subst z; rw [nl_0] at hn; omega
    have q : 1 ≤ v / 2 ^ n := by
      rw [Nat.le_div_iff_mul_le (Nat.two_pow_pos n), Nat.one_mul]
      exact Nat.le_trans (Nat.pow_le_pow_right (by decide) (by omega)) (nl_ge v0).2
    have q2 : v / 2 ^ n ≤ v := Nat.div_le_self _ _
    rw [← i, ev_lm]
    simp (disch := omega) only [zz_ad, zz_sb, zz_ng, zz_ml, zz_le, zz_lt, zz_eq, zz_tn, jl_u63, jl_us, jl_63, ll_sl, ll_sr, ll_ad, ll_sb, ll_ml, ll_le, ll_lt, jl_eq, ll_m1, n6_63, n6_1, n6_0, aX16_length_0, tX16_length_16, m3_1, m3_64, ↓reduceIte, jr_kl, jr_kr, ↓jr_let, jr_bs, and_true, true_and, and_false, false_and, or_true, true_or, or_false, false_or, not_true_eq_false, not_false_eq_true, b_let, b_lef, b_ltt, b_ltf, b_eqt, b_eqf, bz_let, bz_lef, bz_ltt, bz_ltf, bz_eqt, bz_eqf, Nat.reducePow, Nat.reduceMul, Nat.reduceAdd, Nat.reduceSub, Nat.reduceMod, Nat.reduceDiv, Int.reduceAdd, Int.reduceSub, Int.reduceMul, Int.reduceNeg, Int.reduceToNat, Int.toNat_natCast]
    rfl
theorem jm_length {hi lo : Nat} (h1 : hi < 18446744073709551616) (h2 : lo < 18446744073709551616) : fX16_length (Int64.ofNat hi) (Int64.ofNat lo) = some (Int32.ofInt (nl (hi * 18446744073709551616 + lo))) := by
  unfold fX16_length
  by_cases z : hi = 0
  · subst z
    rw [if_pos (show Int64.ofNat 0 = 0 from rfl)]
    have := jm_len 0 (by decide) h2 (nl lo) 0 (by omega)
    rw [if_pos rfl] at this
    rw [Nat.zero_mul, Nat.zero_add]
    exact this
  · have q : (Int64.ofNat hi = 0) = False := by rw [show (0 : Int64) = Int64.ofNat 0 from rfl, jl_eq h1 (by decide)]; exact eq_false z
    simp only [q, if_false]
    have := jm_len hi h1 h1 (nl hi) 0 (by omega)
    rw [if_neg z] at this
    have e := nl_cut (a := hi * 18446744073709551616 + lo) 64 (by omega)
    rw [show (hi * 18446744073709551616 + lo) / 2 ^ 64 = hi by omega] at e
    rw [e]
    refine this.trans ?_
    congr 2; omega
