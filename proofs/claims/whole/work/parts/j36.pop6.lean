/-! NUMBERS: how many bits of 64 are 1, whole -/
theorem po_n (a b m n : Nat) (h1 : a ≤ m) (h2 : b ≤ n) : a + 256 * b ≤ m + 256 * n := Nat.add_le_add h1 (Nat.mul_le_mul_left _ h2)
theorem po_u (a b m n : Nat) (h1 : a ≤ m) (h2 : b ≤ n) : a + 65536 * b ≤ m + 65536 * n := Nat.add_le_add h1 (Nat.mul_le_mul_left _ h2)
theorem po_5 {P0 P1 P2 P3 P4 P5 P6 P7 Y : Nat} (l0 : P0 ≤ 8) (l1 : P1 ≤ 8) (l2 : P2 ≤ 8) (l3 : P3 ≤ 8) (l4 : P4 ≤ 8) (l5 : P5 ≤ 8) (l6 : P6 ≤ 8) (l7 : P7 ≤ 8) (e : Y = P0 + 256 * (P1 + 256 * (P2 + 256 * (P3 + 256 * (P4 + 256 * (P5 + 256 * (P6 + 256 * P7))))))) : Y < 18446744073709551616 ∧ Y + Y / 2 ^ 8 < 18446744073709551616 ∧ Y + Y / 2 ^ 8 + (Y + Y / 2 ^ 8) / 2 ^ 16 < 18446744073709551616 ∧ (Y + Y / 2 ^ 8 + (Y + Y / 2 ^ 8) / 2 ^ 16 + (Y + Y / 2 ^ 8 + (Y + Y / 2 ^ 8) / 2 ^ 16) / 2 ^ 32) % 128 = P0 + P1 + P2 + P3 + P4 + P5 + P6 + P7 := by
  have d : Y / 2 ^ 8 = P1 + 256 * (P2 + 256 * (P3 + 256 * (P4 + 256 * (P5 + 256 * (P6 + 256 * P7))))) := by rw [e]; exact po_8 (Nat.lt_of_le_of_lt l0 (by decide))
  have b0 : Y ≤ 8 + 256 * (8 + 256 * (8 + 256 * (8 + 256 * (8 + 256 * (8 + 256 * (8 + 256 * 8)))))) := by
    rw [e]
    exact po_n _ _ _ _ l0 (po_n _ _ _ _ l1 (po_n _ _ _ _ l2 (po_n _ _ _ _ l3 (po_n _ _ _ _ l4 (po_n _ _ _ _ l5 (po_n _ _ _ _ l6 l7))))))
  have v : Y + Y / 2 ^ 8 = (P0 + P1 + 256 * (P1 + P2)) + 65536 * ((P2 + P3 + 256 * (P3 + P4)) + 65536 * ((P4 + P5 + 256 * (P5 + P6)) + 65536 * (P6 + P7 + 256 * P7))) := by rw [d, e]; exact po_y ..
  clear d e
  obtain ⟨U0, hU0⟩ : ∃ U, U = P0 + P1 + 256 * (P1 + P2) := ⟨_, rfl⟩
  obtain ⟨U1, hU1⟩ : ∃ U, U = P2 + P3 + 256 * (P3 + P4) := ⟨_, rfl⟩
  obtain ⟨U2, hU2⟩ : ∃ U, U = P4 + P5 + 256 * (P5 + P6) := ⟨_, rfl⟩
  obtain ⟨U3, hU3⟩ : ∃ U, U = P6 + P7 + 256 * P7 := ⟨_, rfl⟩
  rw [← hU0, ← hU1, ← hU2, ← hU3] at v
  have m0 : U0 ≤ 5000 := by clear v b0 hU1 hU2 hU3; omega
  have m1 : U1 ≤ 5000 := by clear v b0 hU0 hU2 hU3; omega
  have m2' : U2 ≤ 5000 := by clear v b0 hU0 hU1 hU3; omega
  have m3' : U3 ≤ 5000 := by clear v b0 hU0 hU1 hU2; omega
  have sm : U0 + U1 + U2 + U3 = (P0 + P1 + P2 + P3 + P4 + P5 + P6 + P7) + 128 * (2 * (P1 + P2 + P3 + P4 + P5 + P6 + P7)) := by clear v b0; rw [hU0, hU1, hU2, hU3]; omega
  have lt : P0 + P1 + P2 + P3 + P4 + P5 + P6 + P7 < 128 := by clear v b0 hU0 hU1 hU2 hU3 sm; omega
  clear hU0 hU1 hU2 hU3 l0 l1 l2 l3 l4 l5 l6 l7
  have d16 : (Y + Y / 2 ^ 8) / 2 ^ 16 = U1 + 65536 * (U2 + 65536 * U3) := by rw [v]; exact po_16 (Nat.lt_of_le_of_lt m0 (by decide))
  have v9 : Y + Y / 2 ^ 8 + (Y + Y / 2 ^ 8) / 2 ^ 16 = (U0 + U1) + 65536 * ((U1 + U2) + 65536 * ((U2 + U3) + 65536 * U3)) := by rw [d16, v]; exact po_v ..
  have d32 : (Y + Y / 2 ^ 8 + (Y + Y / 2 ^ 8) / 2 ^ 16) / 2 ^ 32 = (U2 + U3) + 65536 * U3 := by rw [v9]; exact po_32 (Nat.lt_of_le_of_lt (Nat.add_le_add m0 m1) (by decide)) (Nat.lt_of_le_of_lt (Nat.add_le_add m1 m2') (by decide))
  have b1 : Y + Y / 2 ^ 8 ≤ 5000 + 65536 * (5000 + 65536 * (5000 + 65536 * 5000)) := by rw [v]; exact po_u _ _ _ _ m0 (po_u _ _ _ _ m1 (po_u _ _ _ _ m2' m3'))
  have b2 : Y + Y / 2 ^ 8 + (Y + Y / 2 ^ 8) / 2 ^ 16 ≤ (5000 + 5000) + 65536 * ((5000 + 5000) + 65536 * ((5000 + 5000) + 65536 * 5000)) := by
    rw [v9]
    exact po_u _ _ _ _ (Nat.add_le_add m0 m1) (po_u _ _ _ _ (Nat.add_le_add m1 m2') (po_u _ _ _ _ (Nat.add_le_add m2' m3') m3'))
  refine ⟨Nat.lt_of_le_of_lt b0 (by decide), Nat.lt_of_le_of_lt b1 (by decide), Nat.lt_of_le_of_lt b2 (by decide), ?_⟩
  rw [d32, v9, po_w, Nat.add_mul_mod_self_left, sm, po_m lt]
theorem po_b (X : Nat) (h : X < 18446744073709551616) : ∃ b0 b1 b2 b3 b4 b5 b6 b7 : Nat, b0 < 256 ∧ b1 < 256 ∧ b2 < 256 ∧ b3 < 256 ∧ b4 < 256 ∧ b5 < 256 ∧ b6 < 256 ∧ b7 < 256 ∧ X = b0 + 256 * (b1 + 256 * (b2 + 256 * (b3 + 256 * (b4 + 256 * (b5 + 256 * (b6 + 256 * (b7 + 256 * 0))))))) := by
  have st : ∀ x : Nat, x = x % 256 + 256 * (x / 256) := fun x => (Nat.mod_add_div x 256).symm
  have e1 := st X
  have e2 := st (X / 256)
  have e3 := st (X / 256 / 256)
  have e4 := st (X / 256 / 256 / 256)
  have e5 := st (X / 256 / 256 / 256 / 256)
  have e6 := st (X / 256 / 256 / 256 / 256 / 256)
  have e7 := st (X / 256 / 256 / 256 / 256 / 256 / 256)
  have e8 := st (X / 256 / 256 / 256 / 256 / 256 / 256 / 256)
  have e9 : X / 256 / 256 / 256 / 256 / 256 / 256 / 256 / 256 = 0 := by
    rw [Nat.div_div_eq_div_mul, Nat.div_div_eq_div_mul, Nat.div_div_eq_div_mul, Nat.div_div_eq_div_mul, Nat.div_div_eq_div_mul, Nat.div_div_eq_div_mul, Nat.div_div_eq_div_mul]
    exact Nat.div_eq_of_lt h
  have lt : ∀ x : Nat, x % 256 < 256 := fun x => Nat.mod_lt x (by decide)
  rw [e9] at e8
  refine ⟨_, _, _, _, _, _, _, _, lt X, lt (X / 256), lt (X / 256 / 256), lt (X / 256 / 256 / 256), lt (X / 256 / 256 / 256 / 256), lt (X / 256 / 256 / 256 / 256 / 256), lt (X / 256 / 256 / 256 / 256 / 256 / 256), lt (X / 256 / 256 / 256 / 256 / 256 / 256 / 256), ?_⟩
  rw [← e8, ← e7, ← e6, ← e5, ← e4, ← e3, ← e2, ← e1]
theorem po_pc {b0 R n : Nat} (h : b0 < 256) : pc (8 + n) (b0 + 256 * R) = pc 8 b0 + pc n R := by
  rw [pc_s, show (2 : Nat) ^ 8 = 256 from rfl, Nat.add_mul_mod_self_left, Nat.mod_eq_of_lt h, Nat.add_mul_div_left _ _ (by decide), Nat.div_eq_of_lt h, Nat.zero_add]
theorem jn_pc6 {X : Nat} (h : X < 18446744073709551616) : fJ13_bitCount_95d88 (Int64.ofNat X) = Int32.ofInt (pc 64 X) := by
  obtain ⟨b0, b1, b2, b3, b4, b5, b6, b7, h0, h1, h2, h3, h4, h5, h6, h7, e⟩ := po_b X h
  have u5 : p5 8 X = q5 b0 + 256 * (q5 b1 + 256 * (q5 b2 + 256 * (q5 b3 + 256 * (q5 b4 + 256 * (q5 b5 + 256 * (q5 b6 + 256 * (q5 b7 + 256 * p5 0 0))))))) := by rw [e, p5_s _ h0, p5_s _ h1, p5_s _ h2, p5_s _ h3, p5_s _ h4, p5_s _ h5, p5_s _ h6, p5_s _ h7]
  have u3 : p3 8 X = q3 b0 + 256 * (q3 b1 + 256 * (q3 b2 + 256 * (q3 b3 + 256 * (q3 b4 + 256 * (q3 b5 + 256 * (q3 b6 + 256 * (q3 b7 + 256 * p3 0 0))))))) := by rw [e, p3_s _ h0, p3_s _ h1, p3_s _ h2, p3_s _ h3, p3_s _ h4, p3_s _ h5, p3_s _ h6, p3_s _ h7]
  have u1 : p1 8 X = q1 b0 + 256 * (q1 b1 + 256 * (q1 b2 + 256 * (q1 b3 + 256 * (q1 b4 + 256 * (q1 b5 + 256 * (q1 b6 + 256 * (q1 b7 + 256 * p1 0 0))))))) := by rw [e, p1_s _ h0, p1_s _ h1, p1_s _ h2, p1_s _ h3, p1_s _ h4, p1_s _ h5, p1_s _ h6, p1_s _ h7]
  rw [p_0.1] at u5
  rw [p_0.2.1] at u3
  rw [p_0.2.2] at u1
  have a0 := q_all ⟨b0, h0⟩
  have a1 := q_all ⟨b1, h1⟩
  have a2 := q_all ⟨b2, h2⟩
  have a3 := q_all ⟨b3, h3⟩
  have a4 := q_all ⟨b4, h4⟩
  have a5 := q_all ⟨b5, h5⟩
  have a6 := q_all ⟨b6, h6⟩
  have a7 := q_all ⟨b7, h7⟩
  simp only at a0 a1 a2 a3 a4 a5 a6 a7
  have su : pc 64 X = pc 8 b0 + (pc 8 b1 + (pc 8 b2 + (pc 8 b3 + (pc 8 b4 + (pc 8 b5 + (pc 8 b6 + (pc 8 b7 + 0))))))) := by
    rw [e, show (64 : Nat) = 8 + (8 + (8 + (8 + (8 + (8 + (8 + (8 + 0))))))) from rfl, po_pc h0, po_pc h1, po_pc h2, po_pc h3, po_pc h4, po_pc h5, po_pc h6, po_pc h7]
    rfl
  have v5 : p5 8 X = pc 8 b0 + 256 * (pc 8 b1 + 256 * (pc 8 b2 + 256 * (pc 8 b3 + 256 * (pc 8 b4 + 256 * (pc 8 b5 + 256 * (pc 8 b6 + 256 * (pc 8 b7))))))) := by rw [u5, a0.2.2, a1.2.2, a2.2.2, a3.2.2, a4.2.2, a5.2.2, a6.2.2, a7.2.2]; rfl
  have c1 : p1 8 X ≤ X := by
    rw [u1, e]
    exact po_n _ _ _ _ a0.1 (po_n _ _ _ _ a1.1 (po_n _ _ _ _ a2.1 (po_n _ _ _ _ a3.1 (po_n _ _ _ _ a4.1 (po_n _ _ _ _ a5.1 (po_n _ _ _ _ a6.1 (po_n _ _ _ _ a7.1 (Nat.le_refl _))))))))
  have c3 : p3 8 X ≤ 102 + 256 * (102 + 256 * (102 + 256 * (102 + 256 * (102 + 256 * (102 + 256 * (102 + 256 * (102 + 256 * 0))))))) := by
    rw [u3]
    exact po_n _ _ _ _ a0.2.1 (po_n _ _ _ _ a1.2.1 (po_n _ _ _ _ a2.2.1 (po_n _ _ _ _ a3.2.1 (po_n _ _ _ _ a4.2.1 (po_n _ _ _ _ a5.2.1 (po_n _ _ _ _ a6.2.1 (po_n _ _ _ _ a7.2.1 (Nat.le_refl _))))))))
  obtain ⟨g0, g1, g2, g3⟩ := po_5 (pc_le 8 b0) (pc_le 8 b1) (pc_le 8 b2) (pc_le 8 b3) (pc_le 8 b4) (pc_le 8 b5) (pc_le 8 b6) (pc_le 8 b7) v5
  have c3' : p3 8 X < 18446744073709551616 := Nat.lt_of_le_of_lt c3 (by decide)
  have c1' : p1 8 X < 18446744073709551616 := Nat.lt_of_le_of_lt c1 h
  clear u1 u3 u5 a0 a1 a2 a3 a4 a5 a6 a7 v5 c1 c3 h0 h1 h2 h3 h4 h5 h6 h7 e
  have us : ∀ (x k : Nat), x < 18446744073709551616 → k < 64 → ((Int64.ofNat x).toUInt64 >>> ((Int32.ofNat k).toInt64.toUInt64 &&& Int64.toUInt64 63)).toInt64 = Int64.ofNat (x / 2 ^ k) := fun x k hx hk => by
    rw [nn_t6 (Nat.lt_trans hk (by decide)), n6_63, jl_u63 hk, jl_us hx hk]
  have le1 : (X / 2) &&& mk8 85 8 ≤ X := Nat.le_trans Nat.and_le_left (Nat.div_le_self ..)
  unfold fJ13_bitCount_95d88
  simp only [jr_let]
  rw [show (1 : Int32) = Int32.ofNat 1 from rfl, show (2 : Int32) = Int32.ofNat 2 from rfl, show (4 : Int32) = Int32.ofNat 4 from rfl, show (8 : Int32) = Int32.ofNat 8 from rfl, show (16 : Int32) = Int32.ofNat 16 from rfl, show (32 : Int32) = Int32.ofNat 32 from rfl, us X 1 h (by decide), show (6148914691236517205 : Int64) = Int64.ofNat (mk8 85 8) by decide, ll_an, Nat.pow_one, ll_sb le1, show X - (X / 2 &&& mk8 85 8) = p1 8 X from rfl, us _ 2 c1' (by decide), show (3689348814741910323 : Int64) = Int64.ofNat (mk8 51 8) by decide, ll_an, ll_an, ll_ad, show (2 : Nat) ^ 2 = 4 from rfl, show (p1 8 X &&& mk8 51 8) + (p1 8 X / 4 &&& mk8 51 8) = p3 8 X from rfl, us _ 4 c3' (by decide), ll_ad, show (1085102592571150095 : Int64) = Int64.ofNat (mk8 15 8) by decide, ll_an, show (2 : Nat) ^ 4 = 16 from rfl, show (p3 8 X + p3 8 X / 16) &&& mk8 15 8 = p5 8 X from rfl, us _ 8 g0 (by decide), ll_ad, us _ 16 g1 (by decide), ll_ad, us _ 32 g2 (by decide), ll_ad, ll_t3, show (127 : Int32) = Int32.ofNat 127 from rfl, nn_m127, zz_n, g3, su]
  exact congrArg (fun z : Nat => Int32.ofInt (z : Int)) (by simp only [Nat.add_assoc, Nat.add_zero])
