/-! NUMBERS: how many bits are 1 -/
def pc : Nat → Nat → Nat
  | 0, _ => 0
  | n + 1, X => X % 2 + pc n (X / 2)
theorem pc_e (n X : Nat) : pc (n + 1) X = X % 2 + pc n (X / 2) := rfl
theorem pc_0 : ∀ n : Nat, pc n 0 = 0
  | 0 => rfl
  | n + 1 => by rw [pc_e, show 0 / 2 = 0 from rfl, pc_0 n]
theorem pc_le : ∀ n X : Nat, pc n X ≤ n
  | 0, _ => Nat.le_refl _
  | n + 1, X => by rw [pc_e]; have := pc_le n (X / 2); omega
theorem pc_s : ∀ n m X : Nat, pc (n + m) X = pc n (X % 2 ^ n) + pc m (X / 2 ^ n)
  | 0, m, X => by rw [Nat.zero_add, Nat.pow_zero, Nat.div_one]; show _ = 0 + _; rw [Nat.zero_add]
  | n + 1, m, X => by
    have e : X % 2 ^ (n + 1) = X % 2 + 2 * (X / 2 % 2 ^ n) := by rw [Nat.pow_succ', Nat.mod_mul]
    rw [show n + 1 + m = (n + m) + 1 by omega, pc_e, pc_s n m (X / 2), pc_e, e, Nat.pow_succ', Nat.div_div_eq_div_mul, show (X % 2 + 2 * (X / 2 % 2 ^ n)) % 2 = X % 2 by omega, show (X % 2 + 2 * (X / 2 % 2 ^ n)) / 2 = X / 2 % 2 ^ n by omega]
    omega
theorem mz_ones {X : Nat} (hX : X < 18446744073709551616) : ∀ (j n a : Nat), n + j = 64 → a ≤ n → pm_lim sX16_ones (Int64.ofNat X, Int32.ofInt a, Int32.ofInt n) = some (Int32.ofInt (a + pc j (X / 2 ^ n) : Nat)) := by
  intro j
  induction j with
  | zero =>
    intro n a hn ha
    rw [ev_lm, aX16_ones_0]
    unfold tX16_ones_4 pc
    rw [if_pos (by rw [m3_64, zz_le (by omega) (by omega) (by omega) (by omega)]; omega), jr_kr]
    rfl
  | succ j ih =>
    intro n a hn ha
    have sh : (((Int64.ofNat X).toUInt64 >>> ((Int32.ofInt (n : Int)).toInt64.toUInt64 &&& Int64.toUInt64 63)).toInt64 &&& 1).toInt32 = Int32.ofInt ((X / 2 ^ n % 2 : Nat) : Int) := by
      rw [zz_tn (by omega) (by omega), Int.toNat_natCast, n6_63, jl_u63 (by omega), jl_us hX (by omega), n6_1, ll_m1, ll_t3, zz_n]
    have i := ih (n + 1) (a + X / 2 ^ n % 2) (by omega) (by omega)
    rw [Nat.pow_succ, ← Nat.div_div_eq_div_mul] at i
    rw [pc_e, ← Nat.add_assoc, ← i, ev_lm, aX16_ones_0]
    unfold tX16_ones_4
    rw [if_neg (by rw [m3_64, zz_le (by omega) (by omega) (by omega) (by omega)]; omega), jr_let, jr_let, jr_kl, sh, m3_1, zz_ad, zz_ad]
    rfl
def mk8 (m : Nat) : Nat → Nat
  | 0 => 0
  | w + 1 => m + 256 * mk8 m w
theorem an8 {a b m n : Nat} (ha : a < 256) (hm : m < 256) : (a + 256 * b) &&& (m + 256 * n) = (a &&& m) + 256 * (b &&& n) := by
  have e1 := Nat.and_div_two_pow (a := a + 256 * b) (b := m + 256 * n) (n := 8)
  have e2 := Nat.and_mod_two_pow (a := a + 256 * b) (b := m + 256 * n) (n := 8)
  rw [show (2 : Nat) ^ 8 = 256 from rfl] at e1 e2
  rw [show (a + 256 * b) / 256 = b by omega, show (m + 256 * n) / 256 = n by omega] at e1
  rw [show (a + 256 * b) % 256 = a by omega, show (m + 256 * n) % 256 = m by omega] at e2
  have dm := Nat.div_add_mod ((a + 256 * b) &&& (m + 256 * n)) 256
  omega
def p1 (w x : Nat) : Nat := x - ((x / 2) &&& mk8 85 w)
def p3 (w x : Nat) : Nat := (p1 w x &&& mk8 51 w) + ((p1 w x / 4) &&& mk8 51 w)
def p5 (w x : Nat) : Nat := (p3 w x + p3 w x / 16) &&& mk8 15 w
def q1 (b : Nat) : Nat := b - ((b / 2) &&& 85)
def q3 (b : Nat) : Nat := (q1 b &&& 51) + ((q1 b / 4) &&& 51)
def q5 (b : Nat) : Nat := (q3 b + q3 b / 16) &&& 15
theorem q_all : ∀ b : Fin 256, q1 b.val ≤ b.val ∧ q3 b.val ≤ 102 ∧ q5 b.val = pc 8 b.val := by decide +kernel
theorem q_85 : ∀ (b : Fin 128) (r : Fin 2), (b.val + 128 * r.val) &&& 85 = b.val &&& 85 := by decide +kernel
theorem q_51 : ∀ (b : Fin 64) (r : Fin 4), (b.val + 64 * r.val) &&& 51 = b.val &&& 51 := by decide +kernel
theorem p1_s (w : Nat) {b c : Nat} (hb : b < 256) : p1 (w + 1) (b + 256 * c) = q1 b + 256 * p1 w c := by
  unfold p1 q1
  have e : (b + 256 * c) / 2 = (b / 2 + 128 * (c % 2)) + 256 * (c / 2) := by omega
  have m : mk8 85 (w + 1) = 85 + 256 * mk8 85 w := rfl
  have q : (b / 2 + 128 * (c % 2)) &&& 85 = b / 2 &&& 85 := q_85 ⟨b / 2, by omega⟩ ⟨c % 2, by omega⟩
  have l1 : (b / 2) &&& 85 ≤ b / 2 := Nat.and_le_left
  have l2 : (c / 2) &&& mk8 85 w ≤ c / 2 := Nat.and_le_left
  rw [e, m, an8 (by omega) (by decide), q]
  omega
theorem p3_s (w : Nat) {b c : Nat} (hb : b < 256) : p3 (w + 1) (b + 256 * c) = q3 b + 256 * p3 w c := by
  unfold p3 q3
  have l := (q_all ⟨b, hb⟩).1
  have l : q1 b ≤ b := l
  rw [p1_s w hb]
  have e : (q1 b + 256 * p1 w c) / 4 = (q1 b / 4 + 64 * (p1 w c % 4)) + 256 * (p1 w c / 4) := by omega
  have m : mk8 51 (w + 1) = 51 + 256 * mk8 51 w := rfl
  have q : (q1 b / 4 + 64 * (p1 w c % 4)) &&& 51 = q1 b / 4 &&& 51 := q_51 ⟨q1 b / 4, by omega⟩ ⟨p1 w c % 4, by omega⟩
  rw [e, m, an8 (by omega) (by decide), an8 (by omega) (by decide), q]
  omega
theorem p3_n (w x : Nat) : p3 w x % 16 ≤ 6 := by
  unfold p3
  have h : ∀ y : Nat, (y &&& mk8 51 w) % 16 ≤ 3 := by
    intro y
    have e := Nat.and_mod_two_pow (a := y) (b := mk8 51 w) (n := 4)
    rw [show (2 : Nat) ^ 4 = 16 from rfl] at e
    have m : mk8 51 w % 16 ≤ 3 := by
      cases w with
      | zero => decide
      | succ w => show (51 + 256 * mk8 51 w) % 16 ≤ 3; omega
    rw [e]
    exact Nat.le_trans Nat.and_le_right m
  have h1 := h (p1 w x)
  have h2 := h (p1 w x / 4)
  omega
theorem p5_s (w : Nat) {b c : Nat} (hb : b < 256) : p5 (w + 1) (b + 256 * c) = q5 b + 256 * p5 w c := by
  unfold p5 q5
  have l : q3 b ≤ 102 := (q_all ⟨b, hb⟩).2.1
  have n := p3_n w c
  rw [p3_s w hb]
  have e : q3 b + 256 * p3 w c + (q3 b + 256 * p3 w c) / 16 = (q3 b + q3 b / 16 + 16 * (p3 w c % 16)) + 256 * (p3 w c + p3 w c / 16) := by omega
  have m : mk8 15 (w + 1) = 15 + 256 * mk8 15 w := rfl
  have a : ∀ z : Nat, z &&& 15 = z % 16 := fun z => Nat.and_two_pow_sub_one_eq_mod z 4
  rw [e, m, an8 (by omega) (by decide), a, a]
  omega
theorem p_0 : p5 0 0 = 0 ∧ p3 0 0 = 0 ∧ p1 0 0 = 0 := by decide
theorem nn_an (a b : Nat) : Int32.ofNat a &&& Int32.ofNat b = Int32.ofNat (a &&& b) := by
  apply Int32.toBitVec_inj.mp
  exact BitVec.ofNat_and.symm
theorem ll_an (a b : Nat) : Int64.ofNat a &&& Int64.ofNat b = Int64.ofNat (a &&& b) := by
  apply Int64.toBitVec_inj.mp
  exact BitVec.ofNat_and.symm
theorem jn_pc {X : Nat} (h : X < 4294967296) : fJ6_bitCount_0f7a4 (Int32.ofNat X) = Int32.ofInt (pc 32 X) := by
  obtain ⟨b0, b1, b2, b3, h0, h1, h2, h3, e⟩ : ∃ b0 b1 b2 b3 : Nat, b0 < 256 ∧ b1 < 256 ∧ b2 < 256 ∧ b3 < 256 ∧ X = b0 + 256 * (b1 + 256 * (b2 + 256 * (b3 + 256 * 0))) := ⟨X % 256, X / 256 % 256, X / 65536 % 256, X / 16777216 % 256, by omega, by omega, by omega, by omega, by omega⟩
  have u1 : p1 4 X = q1 b0 + 256 * (q1 b1 + 256 * (q1 b2 + 256 * (q1 b3 + 256 * p1 0 0))) := by rw [e, p1_s _ h0, p1_s _ h1, p1_s _ h2, p1_s _ h3]
  have u3 : p3 4 X = q3 b0 + 256 * (q3 b1 + 256 * (q3 b2 + 256 * (q3 b3 + 256 * p3 0 0))) := by rw [e, p3_s _ h0, p3_s _ h1, p3_s _ h2, p3_s _ h3]
  have u5 : p5 4 X = q5 b0 + 256 * (q5 b1 + 256 * (q5 b2 + 256 * (q5 b3 + 256 * p5 0 0))) := by rw [e, p5_s _ h0, p5_s _ h1, p5_s _ h2, p5_s _ h3]
  rw [p_0.1] at u5
  rw [p_0.2.1] at u3
  rw [p_0.2.2] at u1
  have a0 := q_all ⟨b0, h0⟩
  have a1 := q_all ⟨b1, h1⟩
  have a2 := q_all ⟨b2, h2⟩
  have a3 := q_all ⟨b3, h3⟩
  simp only at a0 a1 a2 a3
  have l0 := pc_le 8 b0
  have l1 := pc_le 8 b1
  have l2 := pc_le 8 b2
  have l3 := pc_le 8 b3
  have su : pc 32 X = pc 8 b0 + (pc 8 b1 + (pc 8 b2 + pc 8 b3)) := by
    rw [show (32 : Nat) = 8 + (8 + (8 + 8)) from rfl, pc_s 8, pc_s 8, pc_s 8, show X % 2 ^ 8 = b0 by omega, show X / 2 ^ 8 % 2 ^ 8 = b1 by omega, show X / 2 ^ 8 / 2 ^ 8 % 2 ^ 8 = b2 by omega, show X / 2 ^ 8 / 2 ^ 8 / 2 ^ 8 = b3 by omega]
  have us : ∀ (x k : Nat), x < 4294967296 → k < 32 → ((Int32.ofNat x).toUInt32 >>> ((Int32.ofNat k).toUInt32 &&& Int32.toUInt32 31)).toInt32 = Int32.ofNat (x / 2 ^ k) := fun x k hx hk => jn_us hx hk
  have le1 : (X / 2) &&& mk8 85 4 ≤ X := Nat.le_trans Nat.and_le_left (by omega)
  unfold fJ6_bitCount_0f7a4
  simp only [jr_let]
  rw [show (1 : Int32) = Int32.ofNat 1 from rfl, show (2 : Int32) = Int32.ofNat 2 from rfl, show (4 : Int32) = Int32.ofNat 4 from rfl, show (8 : Int32) = Int32.ofNat 8 from rfl, show (16 : Int32) = Int32.ofNat 16 from rfl, us X 1 h (by decide), show (1431655765 : Int32) = Int32.ofNat (mk8 85 4) by decide, nn_an, Nat.pow_one, nn_sb le1, show X - (X / 2 &&& mk8 85 4) = p1 4 X from rfl, us _ 2 (by omega) (by decide), show (858993459 : Int32) = Int32.ofNat (mk8 51 4) by decide, nn_an, nn_an, nn_ad, show (2 : Nat) ^ 2 = 4 from rfl, show (p1 4 X &&& mk8 51 4) + (p1 4 X / 4 &&& mk8 51 4) = p3 4 X from rfl, us _ 4 (by omega) (by decide), nn_ad, show (252645135 : Int32) = Int32.ofNat (mk8 15 4) by decide, nn_an, show (2 : Nat) ^ 4 = 16 from rfl, show (p3 4 X + p3 4 X / 16) &&& mk8 15 4 = p5 4 X from rfl, us _ 8 (by omega) (by decide), nn_ad, us _ 16 (by omega) (by decide), nn_ad, show (63 : Int32) = Int32.ofNat 63 from rfl, nn_m63, zz_n]
  have v5 : p5 4 X = pc 8 b0 + 256 * (pc 8 b1 + 256 * (pc 8 b2 + 256 * pc 8 b3)) := by rw [u5, a0.2.2, a1.2.2, a2.2.2, a3.2.2, Nat.mul_zero, Nat.add_zero]
  have d8 : p5 4 X / 2 ^ 8 = pc 8 b1 + 256 * (pc 8 b2 + 256 * pc 8 b3) := by rw [v5]; omega
  have d16 : (p5 4 X + p5 4 X / 2 ^ 8) / 2 ^ 16 = pc 8 b2 + pc 8 b3 + 256 * pc 8 b3 := by rw [d8, v5]; omega
  exact congrArg (fun z : Nat => Int32.ofInt (z : Int)) (by rw [su, d16, d8, v5]; omega)
