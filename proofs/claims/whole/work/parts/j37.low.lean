/-! NUMBERS: the lowest 32 bits; whole operators of 32 bits -/
theorem bv_low (v : BitVec 32) : v.signExtend 64 &&& 4294967295#64 = BitVec.ofNat 64 v.toNat := by
  apply BitVec.eq_of_toNat_eq
  have hv := v.isLt
  have k : (4294967295#64).toNat = 2 ^ 32 - 1 := rfl
  rw [BitVec.toNat_and, k, Nat.and_two_pow_sub_one_eq_mod, BitVec.toNat_signExtend, BitVec.toNat_setWidth, BitVec.toNat_ofNat]
  split <;> omega
theorem nu_low (v : Int32) : v.toInt64 &&& 4294967295 = Int64.ofNat v.toBitVec.toNat := by
  apply Int64.toBitVec_inj.mp
  rw [Int64.toBitVec_and, Int32.toBitVec_toInt64]
  exact bv_low v.toBitVec
theorem nu_lw (z : Nat) : (Int32.ofNat z).toInt64 &&& 4294967295 = Int64.ofNat (z % 4294967296) := by
  rw [nu_low]
  rfl
theorem nu_ll (z : Nat) : Int64.ofNat z &&& 4294967295 = Int64.ofNat (z % 4294967296) := ll_mLOW z
theorem nn_or (a b : Nat) : Int32.ofNat a ||| Int32.ofNat b = Int32.ofNat (a ||| b) := by
  apply Int32.toBitVec_inj.mp
  exact BitVec.ofNat_or.symm
theorem nn_xo (a b : Nat) : Int32.ofNat a ^^^ Int32.ofNat b = Int32.ofNat (a ^^^ b) := by
  apply Int32.toBitVec_inj.mp
  exact BitVec.ofNat_xor.symm
theorem lo_or (a b : Nat) : Int64.ofNat a ||| Int64.ofNat b = Int64.ofNat (a ||| b) := by
  apply Int64.toBitVec_inj.mp
  exact BitVec.ofNat_or.symm
theorem lo_xo (a b : Nat) : Int64.ofNat a ^^^ Int64.ofNat b = Int64.ofNat (a ^^^ b) := by
  apply Int64.toBitVec_inj.mp
  exact BitVec.ofNat_xor.symm
/-- the lowest 32 bits of a long are those of its int -/
theorem nu_t3 (x : Int64) : x.toInt32.toInt64 &&& 4294967295 = x &&& 4294967295 := by
  obtain ⟨n, hn, rfl⟩ := jl_all x
  rw [ll_t3, nu_lw, nu_ll]
theorem nu_cut (x : Int64) : ∃ n : Nat, n < 4294967296 ∧ x &&& 4294967295 = Int64.ofNat n := by
  obtain ⟨n, hn, rfl⟩ := jl_all x
  exact ⟨n % 4294967296, Nat.mod_lt _ (by decide), nu_ll n⟩
theorem nu_cut3 (x : Int32) : ∃ n : Nat, n < 4294967296 ∧ x.toInt64 &&& 4294967295 = Int64.ofNat n := ⟨_, x.toBitVec.isLt, nu_low x⟩
theorem nx_sub (X Y : Nat) (hY : Y < 4294967296) : (Int32.ofNat X - Int32.ofNat Y).toInt64 &&& 4294967295 = (Int64.ofNat X - Int64.ofNat Y) &&& 4294967295 := by
  have e : Int32.ofNat X - Int32.ofNat Y = Int32.ofNat (X + (4294967296 - Y)) := by
    apply Int32.toBitVec_inj.mp
    apply BitVec.eq_of_toNat_eq
    rw [Int32.toBitVec_sub, BitVec.toNat_sub]
    show (2 ^ 32 - (BitVec.ofNat 32 Y).toNat + (BitVec.ofNat 32 X).toNat) % 2 ^ 32 = (BitVec.ofNat 32 (X + (4294967296 - Y))).toNat
    rw [BitVec.toNat_ofNat, BitVec.toNat_ofNat, BitVec.toNat_ofNat]
    omega
  have e2 : Int64.ofNat X - Int64.ofNat Y = Int64.ofNat (X + (18446744073709551616 - Y)) := by
    apply Int64.toBitVec_inj.mp
    apply BitVec.eq_of_toNat_eq
    rw [Int64.toBitVec_sub, BitVec.toNat_sub]
    show (2 ^ 64 - (BitVec.ofNat 64 Y).toNat + (BitVec.ofNat 64 X).toNat) % 2 ^ 64 = (BitVec.ofNat 64 (X + (18446744073709551616 - Y))).toNat
    rw [BitVec.toNat_ofNat, BitVec.toNat_ofNat, BitVec.toNat_ofNat]
    omega
  rw [e, e2, nu_lw, nu_ll]
  exact congrArg Int64.ofNat (by omega)
theorem nx_sar {X k : Nat} (hk : k < 32) : ((Int32.ofNat X >>> Int32.ofNat k).toInt64 &&& 4294967295) = ((Int32.ofNat X).toInt64 >>> Int64.ofNat k) &&& 4294967295 := by
  have e : (Int32.ofNat X >>> Int32.ofNat k).toInt64 = (Int32.ofNat X).toInt64 >>> Int64.ofNat k := by
    apply Int64.toBitVec_inj.mp
    apply BitVec.eq_of_toInt_eq
    rw [Int32.toBitVec_toInt64, BitVec.toInt_signExtend_of_le (by decide), Int32.toBitVec_shiftRight, Int64.toBitVec_shiftRight, nn_sm ⟨k, hk⟩, ll_sm ⟨k, by omega⟩, BitVec.toInt_sshiftRight', BitVec.toInt_sshiftRight', Int32.toBitVec_toInt64, BitVec.toInt_signExtend_of_le (by decide), BitVec.toNat_ofNat, BitVec.toNat_ofNat]
    rw [Nat.mod_eq_of_lt (by omega : k < 2 ^ 32), Nat.mod_eq_of_lt (by omega : k < 2 ^ 64)]
  rw [e]
theorem nn_slw {x k : Nat} (hk : k < 32) : Int32.ofNat x <<< Int32.ofNat k = Int32.ofNat (x * 2 ^ k) := by
  apply Int32.toBitVec_inj.mp
  rw [Int32.toBitVec_shiftLeft, nn_sm ⟨k, hk⟩]
  show BitVec.ofNat 32 x <<< BitVec.ofNat 32 k = BitVec.ofNat 32 (x * 2 ^ k)
  apply BitVec.eq_of_toNat_eq
  rw [BitVec.shiftLeft_eq', BitVec.toNat_shiftLeft, BitVec.toNat_ofNat, BitVec.toNat_ofNat, BitVec.toNat_ofNat, Nat.mod_eq_of_lt (show k < 2 ^ 32 by omega), Nat.shiftLeft_eq, Nat.mod_mul_mod]
