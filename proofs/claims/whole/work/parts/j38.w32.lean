/-! NUMBERS: whole operators of 32 bits as both do them -/
/-- without a trap both give the same lowest 32 bits -/
def q32 (k : Int32) (x y : Int64) : Prop := ∃ v : Nat, v < 4294967296 ∧ (∀ h : pm_H, pm_kd h 592 = 16 → ∃ u, fX16_short32 h 592 k x.toInt32.toInt64 x y.toInt32.toInt64 y = some (u, h) ∧ u &&& 4294967295 = Int64.ofNat v) ∧ ∀ (h : pm_H) (a : Nat), pm_kd h a = 8 → ∃ u, fX8_whole32 h a k x.toInt32 y.toInt32 = some (u, h) ∧ u &&& 4294967295 = Int64.ofNat v
theorem q32_of {k : Int32} {x y u w : Int64} (e1 : ∀ h : pm_H, fX16_short32 h 592 k x.toInt32.toInt64 x y.toInt32.toInt64 y = some (u, h)) (e2 : ∀ (h : pm_H) (a : Nat), fX8_whole32 h a k x.toInt32 y.toInt32 = some (w, h)) (e : u &&& 4294967295 = w &&& 4294967295) : q32 k x y := by
  obtain ⟨v, hv, ev⟩ := nu_cut u
  exact ⟨v, hv, fun h _ => ⟨u, e1 h, ev⟩, fun h a _ => ⟨w, e2 h a, e.symm.trans ev⟩⟩
theorem nu_i (n : Nat) (h : n < 2147483648) : (Int32.ofInt (n : Int)).toInt64 = Int64.ofNat n := by rw [← zz_n, nn_t6 h]
theorem nx_ng (Y : Nat) (hY : Y ≤ 4294967296) : -Int32.ofNat Y &&& Int32.ofNat 31 = Int32.ofNat ((32 - Y % 32) % 32) := by
  have e : -Int32.ofNat Y = Int32.ofNat (4294967296 - Y) := by
    apply Int32.toBitVec_inj.mp
    apply BitVec.eq_of_toNat_eq
    rw [Int32.toBitVec_neg, BitVec.toNat_neg]
    show (2 ^ 32 - (BitVec.ofNat 32 Y).toNat) % 2 ^ 32 = (BitVec.ofNat 32 (4294967296 - Y)).toNat
    rw [BitVec.toNat_ofNat, BitVec.toNat_ofNat]
    omega
  rw [e, nn_m31]
  exact congrArg Int32.ofNat (by omega)
theorem nx_ng6 (Y : Nat) (hY : Y ≤ 4294967296) : -Int32.ofNat Y &&& Int32.ofNat 63 = Int32.ofNat ((64 - Y % 64) % 64) := by
  have e : -Int32.ofNat Y = Int32.ofNat (4294967296 - Y) := by
    apply Int32.toBitVec_inj.mp
    apply BitVec.eq_of_toNat_eq
    rw [Int32.toBitVec_neg, BitVec.toNat_neg]
    show (2 ^ 32 - (BitVec.ofNat 32 Y).toNat) % 2 ^ 32 = (BitVec.ofNat 32 (4294967296 - Y)).toNat
    rw [BitVec.toNat_ofNat, BitVec.toNat_ofNat]
    omega
  rw [e, nn_m63]
  exact congrArg Int32.ofNat (by omega)
theorem pl_3 (a b : Int64) : fX16_plain 3 a b = a + b := (rfl)
theorem pl_4 (a b : Int64) : fX16_plain 4 a b = a - b := (rfl)
theorem pl_5 (a b : Int64) : fX16_plain 5 a b = a * b := (rfl)
theorem pl_10 (a b : Int64) : fX16_plain 10 a b = a &&& b := (rfl)
theorem pl_11 (a b : Int64) : fX16_plain 11 a b = a ||| b := (rfl)
theorem pl_12 (a b : Int64) : fX16_plain 12 a b = a ^^^ b := (rfl)
section W32
variable {X Y : Nat} (hX : X < 4294967296) (hY : Y < 4294967296)
theorem q32_0 (hX : X < 4294967296) : q32 0 (Int64.ofNat X) (Int64.ofNat Y) := by
  have hl := nl_le (L := 32) hX
  refine q32_of (u := Int64.ofNat (32 - nl X)) (w := Int64.ofNat (32 - nl X)) (fun h => ?_) (fun h a => ?_) rfl
  · have z : fX16_zeros (Int64.ofNat X) 32 1 = some (Int32.ofInt ((32 - nl X : Nat) : Int)) := by
      unfold fX16_zeros
      exact mz_lead (b := 32) (.inl rfl) hX (32 - nl X) 0 (by omega)
    show ((fX16_zeros (Int64.ofNat X) 32 1).bind fun v4 => some ((v4.toInt64, h))) = _
    rw [z, jr_bs, nu_i _ (by omega)]
  · show some ((fJ6_numberOfLeadingZeros_0f7a4 (Int64.ofNat X).toInt32).toInt64, h) = _
    rw [ll_t3, jn_lz hX, show (32 - (nl X : Int)) = ((32 - nl X : Nat) : Int) by omega, nu_i _ (by omega)]
theorem q32_1 (hX : X < 4294967296) : q32 1 (Int64.ofNat X) (Int64.ofNat Y) := by
  have hl := tz_le 32 X
  refine q32_of (u := Int64.ofNat (tz 32 X)) (w := Int64.ofNat (tz 32 X)) (fun h => ?_) (fun h a => ?_) rfl
  · have z : fX16_zeros (Int64.ofNat X) 32 0 = some (Int32.ofInt ((tz 32 X : Nat) : Int)) := by
      have := mz_trail (b := 32) (X := X) (.inl rfl) (by omega) 32 0 rfl
      rw [Nat.zero_add, Nat.pow_zero, Nat.div_one] at this
      unfold fX16_zeros
      exact this
    show ((fX16_zeros (Int64.ofNat X) 32 0).bind fun v4 => some ((v4.toInt64, h))) = _
    rw [z, jr_bs, nu_i _ (by omega)]
  · show some ((fJ6_numberOfTrailingZeros_0f7a4 (Int64.ofNat X).toInt32).toInt64, h) = _
    rw [ll_t3, jn_tz hX, nu_i _ (by omega)]
theorem q32_2 (hX : X < 4294967296) : q32 2 (Int64.ofNat X) (Int64.ofNat Y) := by
  have hl := pc_le 32 X
  refine q32_of (u := Int64.ofNat (pc 32 X)) (w := Int64.ofNat (pc 32 X)) (fun h => ?_) (fun h a => ?_) rfl
  · have z : fX16_ones (Int64.ofNat X) = some (Int32.ofInt ((pc 32 X : Nat) : Int)) := by
      have := mz_ones (X := X) (by omega) 64 0 0 rfl (Nat.le_refl _)
      rw [Nat.zero_add, Nat.pow_zero, Nat.div_one, show (64 : Nat) = 32 + 32 from rfl, pc_s, Nat.mod_eq_of_lt hX, Nat.div_eq_of_lt hX, pc_0, Nat.add_zero] at this
      unfold fX16_ones
      exact this
    show ((fX16_ones (Int64.ofNat X)).bind fun v4 => some ((v4.toInt64, h))) = _
    rw [z, jr_bs, nu_i _ (by omega)]
  · show some ((fJ6_bitCount_0f7a4 (Int64.ofNat X).toInt32).toInt64, h) = _
    rw [ll_t3, jn_pc hX, nu_i _ (by omega)]
theorem q32_3 : q32 3 (Int64.ofNat X) (Int64.ofNat Y) := by
  refine q32_of (fun h => rfl) (fun h a => rfl) ?_
  rw [pl_3, ll_t3, ll_t3, nn_ad, nu_lw, ll_ad, nu_ll]
theorem q32_4 (hY : Y < 4294967296) : q32 4 (Int64.ofNat X) (Int64.ofNat Y) := by
  refine q32_of (fun h => rfl) (fun h a => rfl) ?_
  rw [pl_4, ll_t3, ll_t3, nx_sub X Y hY]
theorem q32_5 : q32 5 (Int64.ofNat X) (Int64.ofNat Y) := by
  refine q32_of (fun h => rfl) (fun h a => rfl) ?_
  rw [pl_5, ll_t3, ll_t3, nn_ml, nu_lw, ll_ml, nu_ll]
theorem q32_10 : q32 10 (Int64.ofNat X) (Int64.ofNat Y) := by
  refine q32_of (fun h => rfl) (fun h a => rfl) ?_
  rw [pl_10, ll_t3, ll_t3, nn_an, nu_lw, ll_an, nu_ll]
theorem q32_11 : q32 11 (Int64.ofNat X) (Int64.ofNat Y) := by
  refine q32_of (fun h => rfl) (fun h a => rfl) ?_
  rw [pl_11, ll_t3, ll_t3, nn_or, nu_lw, lo_or, nu_ll]
theorem q32_12 : q32 12 (Int64.ofNat X) (Int64.ofNat Y) := by
  refine q32_of (fun h => rfl) (fun h a => rfl) ?_
  rw [pl_12, ll_t3, ll_t3, nn_xo, nu_lw, lo_xo, nu_ll]
theorem nu_by (Y : Nat) : (Int64.ofNat Y).toInt32 &&& 31 = Int32.ofNat (Y % 32) := by rw [ll_t3, n3_31, nn_m31]
theorem nu_mk (k : Nat) (hk : k < 64) : (Int32.ofNat k).toInt64 &&& 63 = Int64.ofNat k := by rw [nn_t6 (by omega), n6_63, ll_m63, Nat.mod_eq_of_lt hk]
theorem nu_mu (k : Nat) (hk : k < 64) : (Int32.ofNat k).toInt64.toUInt64 &&& Int64.toUInt64 63 = (Int64.ofNat k).toUInt64 := by rw [nn_t6 (by omega), n6_63, jl_u63 hk]
theorem nu_31 (k : Nat) (hk : k < 32) : Int32.ofNat k &&& 31 = Int32.ofNat k := by rw [n3_31, nn_m31, Nat.mod_eq_of_lt hk]
theorem q32_13 : q32 13 (Int64.ofNat X) (Int64.ofNat Y) := by
  refine q32_of (fun h => rfl) (fun h a => rfl) ?_
  rw [nu_by, nu_mk _ (by omega), nu_31 _ (by omega), ll_sl _ (by omega), ll_t3, nn_slw (by omega), nu_lw, nu_ll]
theorem q32_14 : q32 14 (Int64.ofNat X) (Int64.ofNat Y) := by
  refine q32_of (fun h => rfl) (fun h a => rfl) ?_
  rw [nu_by, nu_mk _ (by omega), nu_31 _ (by omega), ll_t3, nx_sar (by omega)]
theorem q32_15 (hX : X < 4294967296) : q32 15 (Int64.ofNat X) (Int64.ofNat Y) := by
  refine q32_of (fun h => rfl) (fun h a => rfl) ?_
  rw [nu_by, nu_mu _ (by omega), jl_us (by omega) (by omega), ll_t3, n3_31, jn_us hX (by omega), nu_lw, nu_ll]
theorem q32_16 (hX : X < 4294967296) (hY : Y < 4294967296) : q32 16 (Int64.ofNat X) (Int64.ofNat Y) := by
  refine q32_of (fun h => rfl) (fun h a => rfl) ?_
  rw [nu_by, nu_mk _ (by omega), nu_31 _ (by omega), ll_sl _ (by omega), n3_32, nn_sb (by omega), nu_mu _ (by omega), jl_us (by omega) (by omega), lo_or, nu_ll, ll_t3, ll_t3, n3_31, nx_ng Y (by omega), nn_slw (by omega), jn_us hX (by omega), nn_or, nu_lw]
  by_cases c : Y % 32 = 0
  · rw [c, show (32 - 0) % 32 = 0 from rfl, show 32 - 0 = 32 from rfl, Nat.pow_zero, Nat.div_one, Nat.mul_one, Nat.or_self, show (2 : Nat) ^ 32 = 4294967296 from rfl, Nat.div_eq_of_lt hX, Nat.or_zero]
  · rw [Nat.mod_eq_of_lt (by omega : 32 - Y % 32 < 32)]
theorem q32_17 (hX : X < 4294967296) (hY : Y < 4294967296) : q32 17 (Int64.ofNat X) (Int64.ofNat Y) := by
  refine q32_of (fun h => rfl) (fun h a => rfl) ?_
  rw [nu_by, nu_mu _ (by omega), n3_32, nn_sb (by omega), nu_mk _ (by omega), ll_sl _ (by omega), jl_us (by omega) (by omega), lo_or, nu_ll, ll_t3, ll_t3, n3_31, nx_ng Y (by omega), nn_m31, nn_slw (by omega), jn_us hX (by omega), nn_or, nu_lw]
  by_cases c : Y % 32 = 0
  · rw [c, show (32 - 0) % 32 % 32 = 0 from rfl, show 32 - 0 = 32 from rfl, Nat.pow_zero, Nat.div_one, Nat.mul_one, Nat.or_self]
    have e : X ||| X * 2 ^ 32 = X * 2 ^ 32 + X := by rw [Nat.or_comm, ← Nat.shiftLeft_eq, ← Nat.shiftLeft_add_eq_or_of_lt hX]
    rw [e, show (2 : Nat) ^ 32 = 4294967296 from rfl]
    exact congrArg Int64.ofNat (by omega)
  · rw [Nat.mod_mod, Nat.mod_eq_of_lt (by omega : 32 - Y % 32 < 32)]
end W32
