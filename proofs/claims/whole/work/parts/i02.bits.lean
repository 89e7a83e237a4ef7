/-! TOOLS: loops one step at a time, masks and shifts of small numbers -/
noncomputable def ev_k {σ ρ : Type} (s : σ → Option (σ ⊕ ρ)) (o : Option (σ ⊕ ρ)) : Option ρ := match o with
  | none => none
  | some (.inl y) => pm_lim s y
  | some (.inr r) => some r
theorem ev_lm {σ ρ : Type} (s : σ → Option (σ ⊕ ρ)) (x : σ) : pm_lim s x = ev_k s (s x) := by
  rw [ev_lim]
  cases s x with
  | none => rfl
  | some z => cases z <;> rfl
theorem ev_kl {σ ρ : Type} (s : σ → Option (σ ⊕ ρ)) (y : σ) : ev_k s (some (.inl y)) = pm_lim s y := rfl
theorem ev_kr {σ ρ : Type} (s : σ → Option (σ ⊕ ρ)) (r : ρ) : ev_k s (some (.inr r)) = some r := rfl
theorem ev_ki {σ ρ : Type} (s : σ → Option (σ ⊕ ρ)) {c : Prop} [Decidable c] (x y : Option (σ ⊕ ρ)) : ev_k s (if c then x else y) = if c then ev_k s x else ev_k s y := by split <;> rfl
theorem pt_k_r {α ρ : Type} (w : α) (k : α → Option ((Nat × pm_H) ⊕ ρ)) : pt_k (.inr w) k = k w := rfl
theorem pt_k_l {α ρ : Type} (z : Nat × pm_H) (k : α → Option ((Nat × pm_H) ⊕ ρ)) : pt_k (.inl z) k = some (.inl z) := rfl
theorem pt_s_r {α ρ σ : Type} (w : α) (k : α → Option (σ ⊕ ((Nat × pm_H) ⊕ ρ))) : pt_s (.inr w) k = k w := rfl
theorem pt_s_l {α ρ σ : Type} (z : Nat × pm_H) (k : α → Option (σ ⊕ ((Nat × pm_H) ⊕ ρ))) : pt_s (.inl z) k = some (.inr (.inl z)) := rfl
theorem nn_sm : ∀ k : Fin 32, (Int32.ofNat k.val).toBitVec.smod 32 = BitVec.ofNat 32 k.val := by decide +kernel
theorem nn_sr {x k : Nat} (hx : x < 2147483648) (hk : k < 32) : Int32.ofNat x >>> Int32.ofNat k = Int32.ofNat (x / 2 ^ k) := by
  apply Int32.toBitVec_inj.mp
  rw [Int32.toBitVec_shiftRight, nn_sm ⟨k, hk⟩, BitVec.sshiftRight_eq']
  have hx' : (Int32.ofNat x).toBitVec.toNat = x := by
    show (BitVec.ofNat 32 x).toNat = x
    rw [BitVec.toNat_ofNat]
    exact Nat.mod_eq_of_lt (by omega)
  have hk' : (BitVec.ofNat 32 k).toNat = k := by
    rw [BitVec.toNat_ofNat]
    exact Nat.mod_eq_of_lt (by omega)
  rw [BitVec.sshiftRight_eq_of_msb_false (BitVec.msb_eq_false_iff_two_mul_lt.mpr (by rw [hx']; omega)), hk']
  apply BitVec.eq_of_toNat_eq
  rw [BitVec.toNat_ushiftRight, hx', Nat.shiftRight_eq_div_pow]
  show _ = (BitVec.ofNat 32 (x / 2 ^ k)).toNat
  rw [BitVec.toNat_ofNat]
  exact (Nat.mod_eq_of_lt (Nat.lt_of_le_of_lt (Nat.div_le_self _ _) (by omega))).symm
theorem nn_mk (x k : Nat) (hk : k ≤ 31) : Int32.ofNat x &&& Int32.ofNat (2 ^ k - 1) = Int32.ofNat (x % 2 ^ k) := by
  apply Int32.toBitVec_inj.mp
  rw [Int32.toBitVec_and]
  show BitVec.ofNat 32 x &&& BitVec.ofNat 32 (2 ^ k - 1) = BitVec.ofNat 32 (x % 2 ^ k)
  apply BitVec.eq_of_toNat_eq
  have hp : 2 ^ k ≤ 2 ^ 31 := Nat.pow_le_pow_right (by decide) hk
  have h0 : 0 < 2 ^ k := Nat.two_pow_pos k
  rw [BitVec.toNat_and, BitVec.toNat_ofNat, BitVec.toNat_ofNat, BitVec.toNat_ofNat, Nat.mod_eq_of_lt (show 2 ^ k - 1 < 2 ^ 32 by omega), Nat.and_two_pow_sub_one_eq_mod, Nat.mod_mod_of_dvd _ (Nat.pow_dvd_pow 2 (by omega)), Nat.mod_eq_of_lt (a := x % 2 ^ k) (Nat.lt_of_lt_of_le (Nat.mod_lt _ h0) (by omega))]
theorem nn_m1 (x : Nat) : Int32.ofNat x &&& Int32.ofNat 1 = Int32.ofNat (x % 2) := nn_mk x 1 (by decide)
theorem nn_m3 (x : Nat) : Int32.ofNat x &&& Int32.ofNat 3 = Int32.ofNat (x % 4) := nn_mk x 2 (by decide)
theorem nn_m7 (x : Nat) : Int32.ofNat x &&& Int32.ofNat 7 = Int32.ofNat (x % 8) := nn_mk x 3 (by decide)
theorem nn_m15 (x : Nat) : Int32.ofNat x &&& Int32.ofNat 15 = Int32.ofNat (x % 16) := nn_mk x 4 (by decide)
theorem nn_m31 (x : Nat) : Int32.ofNat x &&& Int32.ofNat 31 = Int32.ofNat (x % 32) := nn_mk x 5 (by decide)
theorem nn_m63 (x : Nat) : Int32.ofNat x &&& Int32.ofNat 63 = Int32.ofNat (x % 64) := nn_mk x 6 (by decide)
theorem nn_m127 (x : Nat) : Int32.ofNat x &&& Int32.ofNat 127 = Int32.ofNat (x % 128) := nn_mk x 7 (by decide)
theorem nn_m255 (x : Nat) : Int32.ofNat x &&& Int32.ofNat 255 = Int32.ofNat (x % 256) := nn_mk x 8 (by decide)
theorem nn_m65535 (x : Nat) : Int32.ofNat x &&& Int32.ofNat 65535 = Int32.ofNat (x % 65536) := nn_mk x 16 (by decide)
theorem nn_sl {x k y : Nat} (hk : k < 32) (hy : y < 2 ^ k) (hx : x * 2 ^ k + y < 4294967296) : Int32.ofNat x <<< Int32.ofNat k ||| Int32.ofNat y = Int32.ofNat (x * 2 ^ k + y) := by
  apply Int32.toBitVec_inj.mp
  rw [Int32.toBitVec_or, Int32.toBitVec_shiftLeft, nn_sm ⟨k, hk⟩]
  show BitVec.ofNat 32 x <<< BitVec.ofNat 32 k ||| BitVec.ofNat 32 y = BitVec.ofNat 32 (x * 2 ^ k + y)
  apply BitVec.eq_of_toNat_eq
  have hx1 : x * 2 ^ k < 4294967296 := by omega
  have hx2 : x < 4294967296 := Nat.lt_of_le_of_lt (Nat.le_mul_of_pos_right _ (Nat.two_pow_pos k)) hx1
  rw [BitVec.toNat_or, BitVec.shiftLeft_eq', BitVec.toNat_shiftLeft, BitVec.toNat_ofNat, BitVec.toNat_ofNat, BitVec.toNat_ofNat, BitVec.toNat_ofNat, Nat.mod_eq_of_lt (show x < 2 ^ 32 by omega), Nat.mod_eq_of_lt (show k < 2 ^ 32 by omega), Nat.mod_eq_of_lt (show y < 2 ^ 32 by omega), Nat.mod_eq_of_lt (show x * 2 ^ k + y < 2 ^ 32 by omega), Nat.shiftLeft_eq, Nat.mod_eq_of_lt (show x * 2 ^ k < 2 ^ 32 by omega), ← Nat.shiftLeft_eq, ← Nat.shiftLeft_add_eq_or_of_lt hy, Nat.shiftLeft_eq]
theorem nn_sl6 {x y : Nat} (hy : y < 64) (hx : x < 33554432) : Int32.ofNat x <<< Int32.ofNat 6 ||| Int32.ofNat y = Int32.ofNat (x * 64 + y) := nn_sl (k := 6) (by decide) hy (by omega)
theorem nn_sr6 {x : Nat} (hx : x < 2147483648) : Int32.ofNat x >>> Int32.ofNat 6 = Int32.ofNat (x / 64) := nn_sr (k := 6) hx (by decide)
/-- a byte's number -/
def bn (x : Int32) : Nat := (x &&& 255).toBitVec.toNat
theorem bn_lt (x : Int32) : bn x < 256 := by
  unfold bn
  rw [Int32.toBitVec_and, BitVec.toNat_and]
  exact Nat.lt_of_le_of_lt Nat.and_le_right (by decide)
theorem bn_eq (x : Int32) : x &&& 255 = Int32.ofNat (bn x) := by
  apply Int32.toBitVec_inj.mp
  show _ = BitVec.ofNat 32 _
  rw [bn, BitVec.ofNat_toNat, BitVec.setWidth_eq]
theorem ll_sm : ∀ k : Fin 64, (Int64.ofNat k.val).toBitVec.smod 64 = BitVec.ofNat 64 k.val := by decide +kernel
theorem ll_or {v a t : Nat} (ht : t < 64) (hv : v < 2 ^ t) (hx : v + a * 2 ^ t < 18446744073709551616) : Int64.ofNat v ||| Int64.ofNat a <<< Int64.ofNat t = Int64.ofNat (v + a * 2 ^ t) := by
  apply Int64.toBitVec_inj.mp
  rw [Int64.toBitVec_or, Int64.toBitVec_shiftLeft, ll_sm ⟨t, ht⟩]
  show BitVec.ofNat 64 v ||| BitVec.ofNat 64 a <<< BitVec.ofNat 64 t = BitVec.ofNat 64 (v + a * 2 ^ t)
  apply BitVec.eq_of_toNat_eq
  have h1 : a * 2 ^ t < 18446744073709551616 := by omega
  have h2 : a < 18446744073709551616 := Nat.lt_of_le_of_lt (Nat.le_mul_of_pos_right _ (Nat.two_pow_pos t)) h1
  rw [BitVec.toNat_or, BitVec.shiftLeft_eq', BitVec.toNat_shiftLeft, BitVec.toNat_ofNat, BitVec.toNat_ofNat, BitVec.toNat_ofNat, BitVec.toNat_ofNat, Nat.mod_eq_of_lt (show a < 2 ^ 64 by omega), Nat.mod_eq_of_lt (show t < 2 ^ 64 by omega), Nat.mod_eq_of_lt (show v < 2 ^ 64 by omega), Nat.mod_eq_of_lt (show v + a * 2 ^ t < 2 ^ 64 by omega), Nat.shiftLeft_eq, Nat.mod_eq_of_lt (show a * 2 ^ t < 2 ^ 64 by omega), Nat.or_comm, ← Nat.shiftLeft_eq, ← Nat.shiftLeft_add_eq_or_of_lt hv, Nat.shiftLeft_eq, Nat.add_comm]
theorem ll_mk (x k : Nat) (hk : k ≤ 63) : Int64.ofNat x &&& Int64.ofNat (2 ^ k - 1) = Int64.ofNat (x % 2 ^ k) := by
  apply Int64.toBitVec_inj.mp
  rw [Int64.toBitVec_and]
  show BitVec.ofNat 64 x &&& BitVec.ofNat 64 (2 ^ k - 1) = BitVec.ofNat 64 (x % 2 ^ k)
  apply BitVec.eq_of_toNat_eq
  have hp : 2 ^ k ≤ 2 ^ 63 := Nat.pow_le_pow_right (by decide) hk
  have h0 : 0 < 2 ^ k := Nat.two_pow_pos k
  rw [BitVec.toNat_and, BitVec.toNat_ofNat, BitVec.toNat_ofNat, BitVec.toNat_ofNat, Nat.mod_eq_of_lt (show 2 ^ k - 1 < 2 ^ 64 by omega), Nat.and_two_pow_sub_one_eq_mod, Nat.mod_mod_of_dvd _ (Nat.pow_dvd_pow 2 (by omega)), Nat.mod_eq_of_lt (a := x % 2 ^ k) (Nat.lt_of_lt_of_le (Nat.mod_lt _ h0) (by omega))]
theorem ll_m63 (x : Nat) : Int64.ofNat x &&& Int64.ofNat 63 = Int64.ofNat (x % 64) := ll_mk x 6 (by decide)
theorem ll_m65535 (x : Nat) : Int64.ofNat x &&& Int64.ofNat 65535 = Int64.ofNat (x % 65536) := ll_mk x 16 (by decide)
theorem ll_mLOW (x : Nat) : Int64.ofNat x &&& Int64.ofNat 4294967295 = Int64.ofNat (x % 4294967296) := ll_mk x 32 (by decide)
