/-! NUMBERS: to whole numbers: the class -/
theorem cw2_r {g : Bool} {k w r hf : Nat} (hk : k ≤ 3) (hw : w < 9007199254740992) (hr : r < 9223372036854775808) (hh : hf < 9223372036854775808) (h0 : hf ≠ 0) : (if Int32.ofInt ((k + 2 : Nat) : Int) = 2 then (if bI g = 0 then (fX8_toWholeFloating_b98 2 (Int32.ofInt ((k + 2 : Nat) : Int)) (bI g) (Int64.ofNat w) (Int64.ofNat r) (Int64.ofNat hf)) else (fX8_toWholeFloating_b88 2 (Int32.ofInt ((k + 2 : Nat) : Int)) (bI g) (Int64.ofNat w) (Int64.ofNat r) (Int64.ofNat hf))) else (fX8_toWholeFloating_b88 2 (Int32.ofInt ((k + 2 : Nat) : Int)) (bI g) (Int64.ofNat w) (Int64.ofNat r) (Int64.ofNat hf))) = Int64.ofNat (f2 g (if wu k g w r hf = true then w + 1 else w) 0 false) := by
  have R : ∀ W : Nat, W < 9007199254740993 → fX8_round 2 (bI g) (Int64.ofNat W) 0 = Int64.ofNat (f2 g W 0 false) := fun W hW => cr2 g (E := 0) (by omega) (by decide) (by decide)
  have z : (Int64.ofNat r = 0) = (r = 0) := by rw [n6_0, jl_eq (by omega) (by decide)]
  have l : (Int64.ofNat hf < Int64.ofNat r) = (hf < r) := ll_lt hh hr
  have e : (Int64.ofNat r = Int64.ofNat hf) = (r = hf) := jl_eq (by omega) (by omega)
  have o : (Int64.ofNat w &&& 1 = 1) = (w % 2 = 1) := jw_1 w
  have q0 : (Int32.ofInt ((k + 2 : Nat) : Int) = 2) = (k = 0) := by rw [show (2 : Int32) = Int32.ofInt ((2 : Nat) : Int) from rfl, jk_i (by omega) (by decide)]; exact propext ⟨fun z => by omega, fun z => by omega⟩
  have q1 : (Int32.ofInt ((k + 2 : Nat) : Int) = 3) = (k = 1) := by rw [show (3 : Int32) = Int32.ofInt ((3 : Nat) : Int) from rfl, jk_i (by omega) (by decide)]; exact propext ⟨fun z => by omega, fun z => by omega⟩
  have q3 : (Int32.ofInt ((k + 2 : Nat) : Int) = 5) = (k = 3) := by rw [show (5 : Int32) = Int32.ofInt ((5 : Nat) : Int) from rfl, jk_i (by omega) (by decide)]; exact propext ⟨fun z => by omega, fun z => by omega⟩
  have p1 : Int64.ofNat w + 1 = Int64.ofNat (w + 1) := by rw [n6_1, ll_ad]
  have o1 : ((0 : Int32) = 0) = True := eq_true rfl
  have o2 : ((1 : Int32) = 0) = False := eq_false (by decide)
  unfold fX8_toWholeFloating_b98 fX8_toWholeFloating_b88 fX8_toWholeFloating_b102 fX8_toWholeFloating_b98 fX8_toWholeFloating_b103 fX8_toWholeFloating_b123
  simp only [jr_let, z, l, e, o, q0, q1, q3, bI_0, p1, o1, o2, R w (by omega), R (w + 1) (by omega), if_true, if_false]
  unfold wu
  by_cases c1 : r = 0
  · by_cases c4 : k = 3
    · have d2 : ¬ 0 = hf := fun q => h0 q.symm
      simp [c1, c4, d2]
    · by_cases c2 : k = 0
      · cases g <;> simp [c1, c2, c4]
      · by_cases c3 : k = 1
        · cases g <;> simp [c1, c2, c3, c4]
        · simp [c1, c2, c3, c4]
  by_cases c2 : k = 0
  · cases g <;> simp [c1, c2]
  by_cases c3 : k = 1
  · cases g <;> simp [c1, c2, c3]
  by_cases c4 : k = 3
  · by_cases d1 : hf < r
    · simp [c1, c2, c3, c4, d1]
    · by_cases d2 : r = hf
      · by_cases d3 : w % 2 = 1
        · simp [c1, c2, c3, c4, d1, d2, d3, h0]
        · simp [c1, c2, c3, c4, d1, d2, d3]
      · simp [c1, c2, c3, c4, d1, d2]
  · simp [c1, c2, c3, c4]
theorem cw3_r {g : Bool} {k w r hf : Nat} (hk : k ≤ 3) (hw : w < 9007199254740992) (hr : r < 9223372036854775808) (hh : hf < 9223372036854775808) (h0 : hf ≠ 0) : (if Int32.ofInt ((k + 2 : Nat) : Int) = 2 then (if bI g = 0 then (fX8_toWholeFloating_b98 3 (Int32.ofInt ((k + 2 : Nat) : Int)) (bI g) (Int64.ofNat w) (Int64.ofNat r) (Int64.ofNat hf)) else (fX8_toWholeFloating_b88 3 (Int32.ofInt ((k + 2 : Nat) : Int)) (bI g) (Int64.ofNat w) (Int64.ofNat r) (Int64.ofNat hf))) else (fX8_toWholeFloating_b88 3 (Int32.ofInt ((k + 2 : Nat) : Int)) (bI g) (Int64.ofNat w) (Int64.ofNat r) (Int64.ofNat hf))) = Int64.ofNat (f3 g (if wu k g w r hf = true then w + 1 else w) 0 false) := by
  have R : ∀ W : Nat, W < 9007199254740993 → fX8_round 3 (bI g) (Int64.ofNat W) 0 = Int64.ofNat (f3 g W 0 false) := fun W hW => cr3 g (E := 0) (by omega) (by decide) (by decide)
  have z : (Int64.ofNat r = 0) = (r = 0) := by rw [n6_0, jl_eq (by omega) (by decide)]
  have l : (Int64.ofNat hf < Int64.ofNat r) = (hf < r) := ll_lt hh hr
  have e : (Int64.ofNat r = Int64.ofNat hf) = (r = hf) := jl_eq (by omega) (by omega)
  have o : (Int64.ofNat w &&& 1 = 1) = (w % 2 = 1) := jw_1 w
  have q0 : (Int32.ofInt ((k + 2 : Nat) : Int) = 2) = (k = 0) := by rw [show (2 : Int32) = Int32.ofInt ((2 : Nat) : Int) from rfl, jk_i (by omega) (by decide)]; exact propext ⟨fun z => by omega, fun z => by omega⟩
  have q1 : (Int32.ofInt ((k + 2 : Nat) : Int) = 3) = (k = 1) := by rw [show (3 : Int32) = Int32.ofInt ((3 : Nat) : Int) from rfl, jk_i (by omega) (by decide)]; exact propext ⟨fun z => by omega, fun z => by omega⟩
  have q3 : (Int32.ofInt ((k + 2 : Nat) : Int) = 5) = (k = 3) := by rw [show (5 : Int32) = Int32.ofInt ((5 : Nat) : Int) from rfl, jk_i (by omega) (by decide)]; exact propext ⟨fun z => by omega, fun z => by omega⟩
  have p1 : Int64.ofNat w + 1 = Int64.ofNat (w + 1) := by rw [n6_1, ll_ad]
  have o1 : ((0 : Int32) = 0) = True := eq_true rfl
  have o2 : ((1 : Int32) = 0) = False := eq_false (by decide)
  unfold fX8_toWholeFloating_b98 fX8_toWholeFloating_b88 fX8_toWholeFloating_b102 fX8_toWholeFloating_b98 fX8_toWholeFloating_b103 fX8_toWholeFloating_b123
  simp only [jr_let, z, l, e, o, q0, q1, q3, bI_0, p1, o1, o2, R w (by omega), R (w + 1) (by omega), if_true, if_false]
  unfold wu
  by_cases c1 : r = 0
  · by_cases c4 : k = 3
    · have d2 : ¬ 0 = hf := fun q => h0 q.symm
      simp [c1, c4, d2]
    · by_cases c2 : k = 0
      · cases g <;> simp [c1, c2, c4]
      · by_cases c3 : k = 1
        · cases g <;> simp [c1, c2, c3, c4]
        · simp [c1, c2, c3, c4]
  by_cases c2 : k = 0
  · cases g <;> simp [c1, c2]
  by_cases c3 : k = 1
  · cases g <;> simp [c1, c2, c3]
  by_cases c4 : k = 3
  · by_cases d1 : hf < r
    · simp [c1, c2, c3, c4, d1]
    · by_cases d2 : r = hf
      · by_cases d3 : w % 2 = 1
        · simp [c1, c2, c3, c4, d1, d2, d3, h0]
        · simp [c1, c2, c3, c4, d1, d2, d3]
      · simp [c1, c2, c3, c4, d1, d2]
  · simp [c1, c2, c3, c4]
theorem cw2 {X k : Nat} (hX : X < 4294967296) (hk : k ≤ 3) (nX : so2 X ≠ 3) : fX8_toWholeFloating 2 (Int32.ofInt ((k + 2 : Nat) : Int)) (Int64.ofNat X) = Int64.ofNat (wo2 k X) := by
  have cX := so2_c X
  have pb := pw2_b X
  have bE := sE2_b X
  have w := wh2_lt X
  have l1 : nl (wh2 X) ≤ 53 := nl_le (by omega)
  have eA : wh2 X * 2 ^ (53 - nl (wh2 X)) = sA2 X := rfl
  have eE : pw2 X - ((53 - nl (wh2 X) : Nat) : Int) = sE2 X := rfl
  unfold fX8_toWholeFloating wo2
  rw [if_neg nX]
  by_cases c0 : so2 X = 0
  · have x0 : X % 2147483648 ≠ 0 := by omega
    have s := sn2 x0
    rw [eA] at s
    have lt : (Int32.ofInt (sE2 X) < 0) = (sE2 X < 0) := by rw [m3_0, zz_lt (by omega) (by omega) (by omega) (by omega)]
    simp only [jr_let]
    rw [cf2_zero hX, if_pos (by rw [bI_0]; simp; omega), cf2_inf hX, if_pos (by rw [bI_0]; simp; omega), cq2 hX x0, cs2 hX x0, cf2_minus hX, eA, eE]
    by_cases c1 : sE2 X < 0
    · rw [if_pos (by rw [lt]; exact c1)]
      obtain ⟨t, ht⟩ : ∃ t : Nat, -sE2 X = (t : Int) := ⟨(-sE2 X).toNat, by omega⟩
      have mn : (if (54 : Int32) < (-Int32.ofInt (sE2 X)) then (54 : Int32) else (-Int32.ofInt (sE2 X))) = Int32.ofInt ((if 54 < t then 54 else t : Nat) : Int) := by
        rw [zz_ng, ht, m3_54]
        by_cases d : 54 < t
        · rw [if_pos (by rw [zz_lt (by omega) (by omega) (by omega) (by omega)]; omega), if_pos d]
          rfl
        · rw [if_neg (by rw [zz_lt (by omega) (by omega) (by omega) (by omega)]; omega), if_neg d]
      rw [mn]
      obtain ⟨u, hu⟩ : ∃ u : Nat, (if 54 < t then 54 else t) = u := ⟨_, rfl⟩
      rw [hu]
      have u1 : 1 ≤ u ∧ u ≤ 54 := by rw [← hu]; split <;> omega
      have pu := Nat.two_pow_pos u
      have ph0 := Nat.two_pow_pos (u - 1)
      have ph : 2 ^ (u - 1) ≤ 2 ^ 53 := Nat.pow_le_pow_right (by decide) (by omega)
      have d1 : sA2 X / 2 ^ u ≤ sA2 X := Nat.div_le_self _ _
      have m1 : sA2 X % 2 ^ u ≤ sA2 X := Nat.mod_le _ _
      have dm : sA2 X / 2 ^ u * 2 ^ u + sA2 X % 2 ^ u = sA2 X := by rw [Nat.mul_comm]; exact Nat.div_add_mod _ _
      have sl : Int64.ofNat (sA2 X / 2 ^ u) <<< ((Int32.ofInt (u : Int)).toInt64 &&& 63) = Int64.ofNat (sA2 X / 2 ^ u * 2 ^ u) := by
        rw [zz_tn (by omega) (by omega), Int.toNat_natCast, n6_63, jl_63 (by omega), ll_sl _ (by omega)]
      have hv : (1 : Int64) <<< ((Int32.ofInt (u : Int) - 1).toInt64 &&& 63) = Int64.ofNat (2 ^ (u - 1)) := by
        rw [m3_1, zz_sb, zz_tn (by omega) (by omega), n6_63, jl_63 (by omega), n6_1, ll_sl _ (by omega), Nat.one_mul, show ((u : Int) - 1).toNat = u - 1 by omega]
      rw [js_u (B := sA2 X) (K := u) (by omega) (by omega), sl, ll_sb (by omega), show sA2 X - sA2 X / 2 ^ u * 2 ^ u = sA2 X % 2 ^ u by omega, hv, cw2_r hk (by omega) (by omega) (by omega) (by omega)]
      by_cases c2 : 0 ≤ pw2 X
      · rw [if_pos (show (so2 X ≠ 0 ∨ 0 ≤ pw2 X) from .inr c2)]
        have tz : t ≤ 53 - nl (wh2 X) := by omega
        have hu2 : u = t := by rw [← hu, if_neg (by have := (nl_ge (wh2_0 x0)).1; omega)]
        have e1 : sA2 X = wh2 X * 2 ^ (pw2 X).toNat * 2 ^ u := by
          rw [← eA, Nat.mul_assoc, ← Nat.pow_add, show (pw2 X).toNat + u = 53 - nl (wh2 X) by omega]
        rw [e1, Nat.mul_div_cancel _ pu, Nat.mul_mod_left]
        have z : wu k (ng2 X) (wh2 X * 2 ^ (pw2 X).toNat) 0 (2 ^ (u - 1)) = false := by unfold wu; simp
        rw [z, if_neg (by decide)]
        have F := fl_ex (w := 31) (p := 24) (em := (-149)) (top := 255) (g := ng2 X) (M := wh2 X) (E := pw2 X) (pw2 X).toNat (wh2_0 x0)
        rw [show pw2 X - ((pw2 X).toNat : Int) = 0 by omega] at F
        have O := own2 hX c0
        unfold f2 at O ⊢
        rw [F, O]
      · rw [if_neg (show ¬ (so2 X ≠ 0 ∨ 0 ≤ pw2 X) by omega)]
        obtain ⟨q, hq⟩ : ∃ q : Nat, -pw2 X = (q : Int) := ⟨(-pw2 X).toNat, by omega⟩
        rw [hq, Int.toNat_natCast]
        have tq : t = q + (53 - nl (wh2 X)) := by omega
        by_cases c3 : t ≤ 54
        · have hu2 : u = q + (53 - nl (wh2 X)) := by rw [← hu, if_neg (by omega)]; exact tq
          have e1 : sA2 X / 2 ^ u = wh2 X / 2 ^ q := by
            rw [← eA, hu2, Nat.pow_add, Nat.mul_div_mul_right _ _ (Nat.two_pow_pos _)]
          have e2 : sA2 X % 2 ^ u = wh2 X % 2 ^ q * 2 ^ (53 - nl (wh2 X)) := by
            rw [← eA, hu2, Nat.pow_add, Nat.mul_mod_mul_right]
          have e3 : 2 ^ (u - 1) = 2 ^ (q - 1) * 2 ^ (53 - nl (wh2 X)) := by
            rw [← Nat.pow_add, show q - 1 + (53 - nl (wh2 X)) = u - 1 by omega]
          rw [e1, e2, e3, wu_z]
        · have hu2 : u = 54 := by rw [← hu, if_pos (by omega)]
          subst hu2
          have b1 : wh2 X * 2 ^ (53 - nl (wh2 X)) * 4 < 2 ^ q * 2 ^ (53 - nl (wh2 X)) := by
            rw [eA, ← Nat.pow_add, ← tq]
            have : 2 ^ 55 ≤ 2 ^ t := Nat.pow_le_pow_right (by decide) (by omega)
            omega
          have b2 : wh2 X * 4 < 2 ^ q := by
            rw [Nat.mul_right_comm] at b1
            exact Nat.lt_of_mul_lt_mul_right b1
          have b3 : 2 ^ q = 2 * 2 ^ (q - 1) := by
            have := Nat.pow_succ' (n := q - 1) (m := 2)
            rwa [show (q - 1).succ = q by omega] at this
          rw [Nat.div_eq_of_lt (show sA2 X < 2 ^ 54 by omega), Nat.mod_eq_of_lt (show sA2 X < 2 ^ 54 by omega), Nat.div_eq_of_lt (show wh2 X < 2 ^ q by omega), Nat.mod_eq_of_lt (show wh2 X < 2 ^ q by omega)]
          have ux : wu k (ng2 X) 0 (sA2 X) (2 ^ (54 - 1)) = wu k (ng2 X) 0 (wh2 X) (2 ^ (q - 1)) := by
            unfold wu
            have w0 := wh2_0 x0
            have a0 : (sA2 X ≠ 0) = (wh2 X ≠ 0) := propext ⟨fun _ => w0, fun _ => by omega⟩
            have a1 : (2 ^ (54 - 1) < sA2 X) = (2 ^ (q - 1) < wh2 X) := propext ⟨fun z => by omega, fun z => by omega⟩
            have a2 : (sA2 X = 2 ^ (54 - 1)) = (wh2 X = 2 ^ (q - 1)) := propext ⟨fun z => by omega, fun z => by omega⟩
            simp only [a0, a1, a2]
          rw [ux]
    · rw [if_neg (by rw [lt]; exact c1), if_pos (show (so2 X ≠ 0 ∨ 0 ≤ pw2 X) by omega)]
  · rw [if_pos (show (so2 X ≠ 0 ∨ 0 ≤ pw2 X) from .inl c0)]
    simp only [jr_let]
    rw [cf2_zero hX]
    by_cases c1 : so2 X = 1
    · rw [if_neg (by rw [bI_0]; simp; omega)]
    · rw [if_pos (by rw [bI_0]; simp; omega), cf2_inf hX, if_neg (by rw [bI_0]; simp; omega)]
theorem cw3 {X k : Nat} (hX : X < 18446744073709551616) (hk : k ≤ 3) (nX : so3 X ≠ 3) : fX8_toWholeFloating 3 (Int32.ofInt ((k + 2 : Nat) : Int)) (Int64.ofNat X) = Int64.ofNat (wo3 k X) := by
  have cX := so3_c X
  have pb := pw3_b X
  have bE := sE3_b X
  have w := wh3_lt X
  have l1 : nl (wh3 X) ≤ 53 := nl_le (by omega)
  have eA : wh3 X * 2 ^ (53 - nl (wh3 X)) = sA3 X := rfl
  have eE : pw3 X - ((53 - nl (wh3 X) : Nat) : Int) = sE3 X := rfl
  unfold fX8_toWholeFloating wo3
  rw [if_neg nX]
  by_cases c0 : so3 X = 0
  · have x0 : X % 9223372036854775808 ≠ 0 := by omega
    have s := sn3 x0
    rw [eA] at s
    have lt : (Int32.ofInt (sE3 X) < 0) = (sE3 X < 0) := by rw [m3_0, zz_lt (by omega) (by omega) (by omega) (by omega)]
    simp only [jr_let]
    rw [cf3_zero hX, if_pos (by rw [bI_0]; simp; omega), cf3_inf hX, if_pos (by rw [bI_0]; simp; omega), cq3 hX x0, cs3 hX x0, cf3_minus hX, eA, eE]
    by_cases c1 : sE3 X < 0
    · rw [if_pos (by rw [lt]; exact c1)]
      obtain ⟨t, ht⟩ : ∃ t : Nat, -sE3 X = (t : Int) := ⟨(-sE3 X).toNat, by omega⟩
      have mn : (if (54 : Int32) < (-Int32.ofInt (sE3 X)) then (54 : Int32) else (-Int32.ofInt (sE3 X))) = Int32.ofInt ((if 54 < t then 54 else t : Nat) : Int) := by
        rw [zz_ng, ht, m3_54]
        by_cases d : 54 < t
        · rw [if_pos (by rw [zz_lt (by omega) (by omega) (by omega) (by omega)]; omega), if_pos d]
          rfl
        · rw [if_neg (by rw [zz_lt (by omega) (by omega) (by omega) (by omega)]; omega), if_neg d]
      rw [mn]
      obtain ⟨u, hu⟩ : ∃ u : Nat, (if 54 < t then 54 else t) = u := ⟨_, rfl⟩
      rw [hu]
      have u1 : 1 ≤ u ∧ u ≤ 54 := by rw [← hu]; split <;> omega
      have pu := Nat.two_pow_pos u
      have ph0 := Nat.two_pow_pos (u - 1)
      have ph : 2 ^ (u - 1) ≤ 2 ^ 53 := Nat.pow_le_pow_right (by decide) (by omega)
      have d1 : sA3 X / 2 ^ u ≤ sA3 X := Nat.div_le_self _ _
      have m1 : sA3 X % 2 ^ u ≤ sA3 X := Nat.mod_le _ _
      have dm : sA3 X / 2 ^ u * 2 ^ u + sA3 X % 2 ^ u = sA3 X := by rw [Nat.mul_comm]; exact Nat.div_add_mod _ _
      have sl : Int64.ofNat (sA3 X / 2 ^ u) <<< ((Int32.ofInt (u : Int)).toInt64 &&& 63) = Int64.ofNat (sA3 X / 2 ^ u * 2 ^ u) := by
        rw [zz_tn (by omega) (by omega), Int.toNat_natCast, n6_63, jl_63 (by omega), ll_sl _ (by omega)]
      have hv : (1 : Int64) <<< ((Int32.ofInt (u : Int) - 1).toInt64 &&& 63) = Int64.ofNat (2 ^ (u - 1)) := by
        rw [m3_1, zz_sb, zz_tn (by omega) (by omega), n6_63, jl_63 (by omega), n6_1, ll_sl _ (by omega), Nat.one_mul, show ((u : Int) - 1).toNat = u - 1 by omega]
      rw [js_u (B := sA3 X) (K := u) (by omega) (by omega), sl, ll_sb (by omega), show sA3 X - sA3 X / 2 ^ u * 2 ^ u = sA3 X % 2 ^ u by omega, hv, cw3_r hk (by omega) (by omega) (by omega) (by omega)]
      by_cases c2 : 0 ≤ pw3 X
      · rw [if_pos (show (so3 X ≠ 0 ∨ 0 ≤ pw3 X) from .inr c2)]
        have tz : t ≤ 53 - nl (wh3 X) := by omega
        have hu2 : u = t := by rw [← hu, if_neg (by have := (nl_ge (wh3_0 x0)).1; omega)]
        have e1 : sA3 X = wh3 X * 2 ^ (pw3 X).toNat * 2 ^ u := by
          rw [← eA, Nat.mul_assoc, ← Nat.pow_add, show (pw3 X).toNat + u = 53 - nl (wh3 X) by omega]
        rw [e1, Nat.mul_div_cancel _ pu, Nat.mul_mod_left]
        have z : wu k (ng3 X) (wh3 X * 2 ^ (pw3 X).toNat) 0 (2 ^ (u - 1)) = false := by unfold wu; simp
        rw [z, if_neg (by decide)]
        have F := fl_ex (w := 63) (p := 53) (em := (-1074)) (top := 2047) (g := ng3 X) (M := wh3 X) (E := pw3 X) (pw3 X).toNat (wh3_0 x0)
        rw [show pw3 X - ((pw3 X).toNat : Int) = 0 by omega] at F
        have O := own3 hX c0
        unfold f3 at O ⊢
        rw [F, O]
      · rw [if_neg (show ¬ (so3 X ≠ 0 ∨ 0 ≤ pw3 X) by omega)]
        obtain ⟨q, hq⟩ : ∃ q : Nat, -pw3 X = (q : Int) := ⟨(-pw3 X).toNat, by omega⟩
        rw [hq, Int.toNat_natCast]
        have tq : t = q + (53 - nl (wh3 X)) := by omega
        by_cases c3 : t ≤ 54
        · have hu2 : u = q + (53 - nl (wh3 X)) := by rw [← hu, if_neg (by omega)]; exact tq
          have e1 : sA3 X / 2 ^ u = wh3 X / 2 ^ q := by
            rw [← eA, hu2, Nat.pow_add, Nat.mul_div_mul_right _ _ (Nat.two_pow_pos _)]
          have e2 : sA3 X % 2 ^ u = wh3 X % 2 ^ q * 2 ^ (53 - nl (wh3 X)) := by
            rw [← eA, hu2, Nat.pow_add, Nat.mul_mod_mul_right]
          have e3 : 2 ^ (u - 1) = 2 ^ (q - 1) * 2 ^ (53 - nl (wh3 X)) := by
            rw [← Nat.pow_add, show q - 1 + (53 - nl (wh3 X)) = u - 1 by omega]
          rw [e1, e2, e3, wu_z]
        · have hu2 : u = 54 := by rw [← hu, if_pos (by omega)]
          subst hu2
          have b1 : wh3 X * 2 ^ (53 - nl (wh3 X)) * 4 < 2 ^ q * 2 ^ (53 - nl (wh3 X)) := by
            rw [eA, ← Nat.pow_add, ← tq]
            have : 2 ^ 55 ≤ 2 ^ t := Nat.pow_le_pow_right (by decide) (by omega)
            omega
          have b2 : wh3 X * 4 < 2 ^ q := by
            rw [Nat.mul_right_comm] at b1
            exact Nat.lt_of_mul_lt_mul_right b1
          have b3 : 2 ^ q = 2 * 2 ^ (q - 1) := by
            have := Nat.pow_succ' (n := q - 1) (m := 2)
            rwa [show (q - 1).succ = q by omega] at this
          rw [Nat.div_eq_of_lt (show sA3 X < 2 ^ 54 by omega), Nat.mod_eq_of_lt (show sA3 X < 2 ^ 54 by omega), Nat.div_eq_of_lt (show wh3 X < 2 ^ q by omega), Nat.mod_eq_of_lt (show wh3 X < 2 ^ q by omega)]
          have ux : wu k (ng3 X) 0 (sA3 X) (2 ^ (54 - 1)) = wu k (ng3 X) 0 (wh3 X) (2 ^ (q - 1)) := by
            unfold wu
            have w0 := wh3_0 x0
            have a0 : (sA3 X ≠ 0) = (wh3 X ≠ 0) := propext ⟨fun _ => w0, fun _ => by omega⟩
            have a1 : (2 ^ (54 - 1) < sA3 X) = (2 ^ (q - 1) < wh3 X) := propext ⟨fun z => by omega, fun z => by omega⟩
            have a2 : (sA3 X = 2 ^ (54 - 1)) = (wh3 X = 2 ^ (q - 1)) := propext ⟨fun z => by omega, fun z => by omega⟩
            simp only [a0, a1, a2]
          rw [ux]
    · rw [if_neg (by rw [lt]; exact c1), if_pos (show (so3 X ≠ 0 ∨ 0 ≤ pw3 X) by omega)]
  · rw [if_pos (show (so3 X ≠ 0 ∨ 0 ≤ pw3 X) from .inl c0)]
    simp only [jr_let]
    rw [cf3_zero hX]
    by_cases c1 : so3 X = 1
    · rw [if_neg (by rw [bI_0]; simp; omega)]
    · rw [if_pos (by rw [bI_0]; simp; omega), cf3_inf hX, if_neg (by rw [bI_0]; simp; omega)]
