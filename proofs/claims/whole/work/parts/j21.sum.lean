/-! NUMBERS: sums, the reference, from its beginning -/
theorem js_pw {A D : Nat} (h1 : 0 < D) (h2 : D < 64) : A / 2 ^ (64 - D) = A * 2 ^ D / 18446744073709551616 := by
  rw [show (18446744073709551616 : Nat) = 2 ^ (64 - D) * 2 ^ D by rw [← Nat.pow_add, show 64 - D + D = 64 by omega], Nat.mul_div_mul_right _ _ (Nat.two_pow_pos D)]
theorem js2_of {H : pm_H} {P Q : Nat} (kP : pm_kd H P = 15) (kQ : pm_kd H Q = 15) {gA gB : Bool} {A B : Nat} {α β : Int} (iA : pm_I H P 0 = bI gA) (iB : pm_I H Q 0 = bI gB) (lA : pm_L H P 2 = Int64.ofNat A) (lB : pm_L H Q 2 = Int64.ofNat B) (pA : pm_I H P 3 = Int32.ofInt α) (pB : pm_I H Q 3 = Int32.ofInt β) (A0 : A ≠ 0) (hA : A < 9007199254740992) (B0 : B ≠ 0) (hB : B < 9007199254740992) (ab : β ≤ α) (b1 : -1200 ≤ β) (a1 : α ≤ 1000) : fX16_sumOf H 2 P Q = some (Int64.ofNat (fg 31 24 (-149) 255 gA (A * 2 ^ (α - β).toNat) gB B β)) := by
  have A1 : 1 ≤ A := by omega
  unfold fX16_sumOf
  rw [if_pos kP, if_pos kQ, pA, pB, jr_let, zz_sb]
  obtain ⟨D, hD⟩ : ∃ D : Nat, α - β = (D : Int) := ⟨(α - β).toNat, by omega⟩
  rw [hD, Int.toNat_natCast]
  have pd := Nat.two_pow_pos D
  by_cases c : D ≤ 64
  · have V0 : A * 2 ^ D ≠ 0 := Nat.mul_ne_zero A0 (by omega)
    have pw : 2 ^ D ≤ 2 ^ 64 := Nat.pow_le_pow_right (by decide) c
    have hV : A * 2 ^ D ≤ 9007199254740991 * 2 ^ 64 := Nat.mul_le_mul (by omega) pw
    have F := js2_fin kP kQ iA iB (V := A * 2 ^ D) (c := B) (E := β) V0 (by omega) B0 (by omega) (by omega) (by omega)
    have s1 : pm_lim (sX16_sumOf H) (.inl (2, P, Q, Int32.ofInt D, Int32.ofInt β)) = pm_lim (sX16_sumOf H) (.inr (.inl (2, P, Q, Int32.ofInt D, Int32.ofInt β, Int64.ofNat (A * 2 ^ D / 18446744073709551616)))) := by
      rw [ev_lm, aX16_sumOf_0]
      unfold tX16_sumOf_30
      by_cases d0 : D = 0
      · subst d0
        rw [if_pos (show Int32.ofInt ((0 : Nat) : Int) = 0 from rfl), jr_kl, Nat.pow_zero, Nat.mul_one, Nat.div_eq_of_lt (by omega)]
        rfl
      · rw [if_neg (by rw [m3_0, zz_eq (by omega) (by omega) (by omega) (by omega)]; omega)]
        by_cases d1 : D < 64
        · rw [if_pos (by rw [m3_64, zz_lt (by omega) (by omega) (by omega) (by omega)]; omega), if_pos kP, jr_kl, lA, m3_64, zz_sb, zz_tn (by omega) (by omega), n6_63, jl_u63 (by omega), jl_us (by omega) (by omega), show ((64 : Int) - D).toNat = 64 - D by omega, js_pw (by omega) d1]
        · have e : D = 64 := by omega
          subst e
          rw [if_neg (by decide), if_pos kP, jr_kl, lA, show (2 : Nat) ^ 64 = 18446744073709551616 from rfl, Nat.mul_div_cancel _ (by decide)]
    have s2 : pm_lim (sX16_sumOf H) (.inr (.inl (2, P, Q, Int32.ofInt D, Int32.ofInt β, Int64.ofNat (A * 2 ^ D / 18446744073709551616)))) = pm_lim (sX16_sumOf H) (.inr (.inr (.inl (2, P, Q, Int32.ofInt D, Int32.ofInt β, Int64.ofNat (A * 2 ^ D / 18446744073709551616), Int64.ofNat (A * 2 ^ D), Int64.ofNat B, 64)))) := by
      rw [ev_lm, aX16_sumOf_1]
      unfold tX16_sumOf_62
      by_cases d1 : D < 64
      · rw [if_pos (by rw [m3_64, zz_lt (by omega) (by omega) (by omega) (by omega)]; omega), if_pos kP, jr_let, if_pos kQ, jr_let, jr_kl, lA, lB, zz_tn (by omega) (by omega), n6_63, jl_63 (by omega), ll_sl _ (by omega), Int.toNat_natCast]
      · have e : D = 64 := by omega
        subst e
        rw [if_neg (by decide), if_pos kQ, jr_let, jr_kl, lB, show (2 : Nat) ^ 64 = 18446744073709551616 from rfl, jl_wrap (A * 18446744073709551616), Nat.mul_mod_left]
        rfl
    have s3 : pm_lim (sX16_sumOf H) (.inr (.inr (.inl (2, P, Q, Int32.ofInt D, Int32.ofInt β, Int64.ofNat (A * 2 ^ D / 18446744073709551616), Int64.ofNat (A * 2 ^ D), Int64.ofNat B, 64)))) = pm_lim (sX16_sumOf H) (.inr (.inr (.inr (.inl (2, P, Q, Int32.ofInt β, Int64.ofNat (A * 2 ^ D / 18446744073709551616), Int64.ofNat (A * 2 ^ D), Int64.ofNat B))))) := by
      rw [ev_lm, aX16_sumOf_2]
      unfold tX16_sumOf_92
      rw [if_pos (by rw [m3_64, zz_le (by omega) (by omega) (by omega) (by omega)]; omega), jr_kl]
    rw [if_pos (by rw [m3_64, zz_le (by omega) (by omega) (by omega) (by omega)]; omega), s1, s2, s3, F]
  · have hV : A * 18446744073709551616 < 340282366920938463444927863358058659840 := by omega
    have ob : od (B / 2 ^ (D - 64)) (decide (B % 2 ^ (D - 64) ≠ 0)) ≠ 0 ∧ od (B / 2 ^ (D - 64)) (decide (B % 2 ^ (D - 64) ≠ 0)) < 18446744073709551616 := by
      have q := Nat.div_le_self B (2 ^ (D - 64))
      refine ⟨fun z => ?_, by unfold od; split <;> omega⟩
      unfold od at z
      have dm := Nat.div_add_mod B (2 ^ (D - 64))
      split at z
      · omega
      · next w =>
        rw [z, Nat.mul_zero, Nat.zero_add] at dm
        exact w ⟨decide_eq_true (by omega), by rw [z]⟩
    have F := js2_fin kP kQ iA iB (V := A * 18446744073709551616) (c := od (B / 2 ^ (D - 64)) (decide (B % 2 ^ (D - 64) ≠ 0))) (E := α - 64) (by omega) hV ob.1 ob.2 (by omega) (by omega)
    rw [Nat.mul_div_cancel _ (by decide)] at F
    have L := js_lp H 2 P Q (Int32.ofInt (α - 64)) (Int64.ofNat A) (Int64.ofNat (A * 18446744073709551616)) (d := (D : Int)) (by omega) (D - 64) B 64 (by omega) (by omega) B0 hB
    have s1 : pm_lim (sX16_sumOf H) (.inl (2, P, Q, Int32.ofInt D, Int32.ofInt (α - 64))) = pm_lim (sX16_sumOf H) (.inr (.inl (2, P, Q, Int32.ofInt D, Int32.ofInt (α - 64), Int64.ofNat A))) := by
      rw [ev_lm, aX16_sumOf_0]
      unfold tX16_sumOf_30
      rw [if_neg (by rw [m3_0, zz_eq (by omega) (by omega) (by omega) (by omega)]; omega), if_neg (by rw [m3_64, zz_lt (by omega) (by omega) (by omega) (by omega)]; omega), if_pos kP, jr_kl, lA]
    have s2 : pm_lim (sX16_sumOf H) (.inr (.inl (2, P, Q, Int32.ofInt D, Int32.ofInt (α - 64), Int64.ofNat A))) = pm_lim (sX16_sumOf H) (.inr (.inr (.inl (2, P, Q, Int32.ofInt D, Int32.ofInt (α - 64), Int64.ofNat A, Int64.ofNat (A * 18446744073709551616), Int64.ofNat B, Int32.ofInt 64)))) := by
      rw [ev_lm, aX16_sumOf_1]
      unfold tX16_sumOf_62
      rw [if_neg (by rw [m3_64, zz_lt (by omega) (by omega) (by omega) (by omega)]; omega), if_pos kQ, jr_let, jr_kl, lB, jl_wrap (A * 18446744073709551616), Nat.mul_mod_left]
      rfl
    have a2 : A * 18446744073709551616 % 2 = 0 := by omega
    have q := Nat.div_le_self B (2 ^ (D - 64))
    have G := fg_odd (w := 31) (p := 24) (em := (-149)) (top := 255) gA (a := A * 18446744073709551616) gB (B := B) (k := D - 64) β (by decide) a2 (by omega)
    rw [show β + ((D - 64 : Nat) : Int) = α - 64 by omega] at G
    have e : A * 18446744073709551616 * 2 ^ (D - 64) = A * 2 ^ D := by
      rw [Nat.mul_assoc, show (18446744073709551616 : Nat) = 2 ^ 64 from rfl, ← Nat.pow_add, show 64 + (D - 64) = D by omega]
    rw [e] at G
    rw [if_neg (by rw [m3_64, zz_le (by omega) (by omega) (by omega) (by omega)]; omega), m3_64, zz_sb, s1, s2, L, F, G]
theorem js3_of {H : pm_H} {P Q : Nat} (kP : pm_kd H P = 15) (kQ : pm_kd H Q = 15) {gA gB : Bool} {A B : Nat} {α β : Int} (iA : pm_I H P 0 = bI gA) (iB : pm_I H Q 0 = bI gB) (lA : pm_L H P 2 = Int64.ofNat A) (lB : pm_L H Q 2 = Int64.ofNat B) (pA : pm_I H P 3 = Int32.ofInt α) (pB : pm_I H Q 3 = Int32.ofInt β) (A0 : A ≠ 0) (hA : A < 9007199254740992) (B0 : B ≠ 0) (hB : B < 9007199254740992) (ab : β ≤ α) (b1 : -1200 ≤ β) (a1 : α ≤ 1000) : fX16_sumOf H 3 P Q = some (Int64.ofNat (fg 63 53 (-1074) 2047 gA (A * 2 ^ (α - β).toNat) gB B β)) := by
  have A1 : 1 ≤ A := by omega
  unfold fX16_sumOf
  rw [if_pos kP, if_pos kQ, pA, pB, jr_let, zz_sb]
  obtain ⟨D, hD⟩ : ∃ D : Nat, α - β = (D : Int) := ⟨(α - β).toNat, by omega⟩
  rw [hD, Int.toNat_natCast]
  have pd := Nat.two_pow_pos D
  by_cases c : D ≤ 64
  · have V0 : A * 2 ^ D ≠ 0 := Nat.mul_ne_zero A0 (by omega)
    have pw : 2 ^ D ≤ 2 ^ 64 := Nat.pow_le_pow_right (by decide) c
    have hV : A * 2 ^ D ≤ 9007199254740991 * 2 ^ 64 := Nat.mul_le_mul (by omega) pw
    have F := js3_fin kP kQ iA iB (V := A * 2 ^ D) (c := B) (E := β) V0 (by omega) B0 (by omega) (by omega) (by omega)
    have s1 : pm_lim (sX16_sumOf H) (.inl (3, P, Q, Int32.ofInt D, Int32.ofInt β)) = pm_lim (sX16_sumOf H) (.inr (.inl (3, P, Q, Int32.ofInt D, Int32.ofInt β, Int64.ofNat (A * 2 ^ D / 18446744073709551616)))) := by
      rw [ev_lm, aX16_sumOf_0]
      unfold tX16_sumOf_30
      by_cases d0 : D = 0
      · subst d0
        rw [if_pos (show Int32.ofInt ((0 : Nat) : Int) = 0 from rfl), jr_kl, Nat.pow_zero, Nat.mul_one, Nat.div_eq_of_lt (by omega)]
        rfl
      · rw [if_neg (by rw [m3_0, zz_eq (by omega) (by omega) (by omega) (by omega)]; omega)]
        by_cases d1 : D < 64
        · rw [if_pos (by rw [m3_64, zz_lt (by omega) (by omega) (by omega) (by omega)]; omega), if_pos kP, jr_kl, lA, m3_64, zz_sb, zz_tn (by omega) (by omega), n6_63, jl_u63 (by omega), jl_us (by omega) (by omega), show ((64 : Int) - D).toNat = 64 - D by omega, js_pw (by omega) d1]
        · have e : D = 64 := by omega
          subst e
          rw [if_neg (by decide), if_pos kP, jr_kl, lA, show (2 : Nat) ^ 64 = 18446744073709551616 from rfl, Nat.mul_div_cancel _ (by decide)]
    have s2 : pm_lim (sX16_sumOf H) (.inr (.inl (3, P, Q, Int32.ofInt D, Int32.ofInt β, Int64.ofNat (A * 2 ^ D / 18446744073709551616)))) = pm_lim (sX16_sumOf H) (.inr (.inr (.inl (3, P, Q, Int32.ofInt D, Int32.ofInt β, Int64.ofNat (A * 2 ^ D / 18446744073709551616), Int64.ofNat (A * 2 ^ D), Int64.ofNat B, 64)))) := by
      rw [ev_lm, aX16_sumOf_1]
      unfold tX16_sumOf_62
      by_cases d1 : D < 64
      · rw [if_pos (by rw [m3_64, zz_lt (by omega) (by omega) (by omega) (by omega)]; omega), if_pos kP, jr_let, if_pos kQ, jr_let, jr_kl, lA, lB, zz_tn (by omega) (by omega), n6_63, jl_63 (by omega), ll_sl _ (by omega), Int.toNat_natCast]
      · have e : D = 64 := by omega
        subst e
        rw [if_neg (by decide), if_pos kQ, jr_let, jr_kl, lB, show (2 : Nat) ^ 64 = 18446744073709551616 from rfl, jl_wrap (A * 18446744073709551616), Nat.mul_mod_left]
        rfl
    have s3 : pm_lim (sX16_sumOf H) (.inr (.inr (.inl (3, P, Q, Int32.ofInt D, Int32.ofInt β, Int64.ofNat (A * 2 ^ D / 18446744073709551616), Int64.ofNat (A * 2 ^ D), Int64.ofNat B, 64)))) = pm_lim (sX16_sumOf H) (.inr (.inr (.inr (.inl (3, P, Q, Int32.ofInt β, Int64.ofNat (A * 2 ^ D / 18446744073709551616), Int64.ofNat (A * 2 ^ D), Int64.ofNat B))))) := by
      rw [ev_lm, aX16_sumOf_2]
      unfold tX16_sumOf_92
      rw [if_pos (by rw [m3_64, zz_le (by omega) (by omega) (by omega) (by omega)]; omega), jr_kl]
    rw [if_pos (by rw [m3_64, zz_le (by omega) (by omega) (by omega) (by omega)]; omega), s1, s2, s3, F]
  · have hV : A * 18446744073709551616 < 340282366920938463444927863358058659840 := by omega
    have ob : od (B / 2 ^ (D - 64)) (decide (B % 2 ^ (D - 64) ≠ 0)) ≠ 0 ∧ od (B / 2 ^ (D - 64)) (decide (B % 2 ^ (D - 64) ≠ 0)) < 18446744073709551616 := by
      have q := Nat.div_le_self B (2 ^ (D - 64))
      refine ⟨fun z => ?_, by unfold od; split <;> omega⟩
      unfold od at z
      have dm := Nat.div_add_mod B (2 ^ (D - 64))
      split at z
      · omega
      · next w =>
        rw [z, Nat.mul_zero, Nat.zero_add] at dm
        exact w ⟨decide_eq_true (by omega), by rw [z]⟩
    have F := js3_fin kP kQ iA iB (V := A * 18446744073709551616) (c := od (B / 2 ^ (D - 64)) (decide (B % 2 ^ (D - 64) ≠ 0))) (E := α - 64) (by omega) hV ob.1 ob.2 (by omega) (by omega)
    rw [Nat.mul_div_cancel _ (by decide)] at F
    have L := js_lp H 3 P Q (Int32.ofInt (α - 64)) (Int64.ofNat A) (Int64.ofNat (A * 18446744073709551616)) (d := (D : Int)) (by omega) (D - 64) B 64 (by omega) (by omega) B0 hB
    have s1 : pm_lim (sX16_sumOf H) (.inl (3, P, Q, Int32.ofInt D, Int32.ofInt (α - 64))) = pm_lim (sX16_sumOf H) (.inr (.inl (3, P, Q, Int32.ofInt D, Int32.ofInt (α - 64), Int64.ofNat A))) := by
      rw [ev_lm, aX16_sumOf_0]
      unfold tX16_sumOf_30
      rw [if_neg (by rw [m3_0, zz_eq (by omega) (by omega) (by omega) (by omega)]; omega), if_neg (by rw [m3_64, zz_lt (by omega) (by omega) (by omega) (by omega)]; omega), if_pos kP, jr_kl, lA]
    have s2 : pm_lim (sX16_sumOf H) (.inr (.inl (3, P, Q, Int32.ofInt D, Int32.ofInt (α - 64), Int64.ofNat A))) = pm_lim (sX16_sumOf H) (.inr (.inr (.inl (3, P, Q, Int32.ofInt D, Int32.ofInt (α - 64), Int64.ofNat A, Int64.ofNat (A * 18446744073709551616), Int64.ofNat B, Int32.ofInt 64)))) := by
      rw [ev_lm, aX16_sumOf_1]
      unfold tX16_sumOf_62
      rw [if_neg (by rw [m3_64, zz_lt (by omega) (by omega) (by omega) (by omega)]; omega), if_pos kQ, jr_let, jr_kl, lB, jl_wrap (A * 18446744073709551616), Nat.mul_mod_left]
      rfl
    have a2 : A * 18446744073709551616 % 2 = 0 := by omega
    have q := Nat.div_le_self B (2 ^ (D - 64))
    have G := fg_odd (w := 63) (p := 53) (em := (-1074)) (top := 2047) gA (a := A * 18446744073709551616) gB (B := B) (k := D - 64) β (by decide) a2 (by omega)
    rw [show β + ((D - 64 : Nat) : Int) = α - 64 by omega] at G
    have e : A * 18446744073709551616 * 2 ^ (D - 64) = A * 2 ^ D := by
      rw [Nat.mul_assoc, show (18446744073709551616 : Nat) = 2 ^ 64 from rfl, ← Nat.pow_add, show 64 + (D - 64) = D by omega]
    rw [e] at G
    rw [if_neg (by rw [m3_64, zz_le (by omega) (by omega) (by omega) (by omega)]; omega), m3_64, zz_sb, s1, s2, L, F, G]
theorem fg_cn {w p : Nat} {em : Int} {top : Nat} (g1 g2 : Bool) {A B : Nat} {α β : Int} (A0 : A ≠ 0) (ab : β ≤ α) (b1 : -3000 ≤ β) : fg w p em top g1 (A * 2 ^ (α - β).toNat) g2 B β = fg w p em top g1 (A * 2 ^ (α + 3000).toNat) g2 (B * 2 ^ (β + 3000).toNat) (-3000) := by
  have h := fg_ex (w := w) (p := p) (em := em) (top := top) g1 (a := A * 2 ^ (α - β).toNat) g2 B β (β + 3000).toNat (Nat.mul_ne_zero A0 (Nat.ne_of_gt (Nat.two_pow_pos _)))
  rw [← h, Nat.mul_assoc, ← Nat.pow_add, show (α - β).toNat + (β + 3000).toNat = (α + 3000).toNat by omega, show β - ((β + 3000).toNat : Int) = -3000 by omega]
def cn2 (X : Nat) (gx : Bool) (Y : Nat) (gy : Bool) : Nat := fg 31 24 (-149) 255 gx (wh2 X * 2 ^ (pw2 X + 3000).toNat) gy (wh2 Y * 2 ^ (pw2 Y + 3000).toNat) (-3000)
def su2 (X Y : Nat) (gy : Bool) : Nat := if so2 X = 3 ∨ so2 Y = 3 then 2143289344 else if so2 X = 2 then (if so2 Y = 2 ∧ (ng2 X ^^ gy) = true then 2143289344 else X) else if so2 Y = 2 then sg2 gy + 2139095040 else if so2 X = 1 then (if so2 Y = 1 then sg2 (ng2 X && gy) else sg2 gy + Y % 2147483648) else if so2 Y = 1 then X else cn2 X (ng2 X) Y gy
theorem mn2_b {H : pm_H} (O : mO H) {X Y : Nat} (hX : X < 4294967296) (hY : Y < 4294967296) {gy : Bool} (hm : m2 H (ng2 X) (so2 X) (wh2 X) (pw2 X) gy (so2 Y) (wh2 Y) (pw2 Y)) (n3 : so2 X ≠ 3 ∧ so2 Y ≠ 3) (n2 : ¬ (so2 X = 2 ∧ so2 Y = 2 ∧ (ng2 X ^^ gy) = true)) : fX16_sum_b114 H 592 2 (Int64.ofNat X) (Int64.ofNat Y) = some (Int64.ofNat (su2 X Y gy), H) := by
  obtain ⟨k, r1, r2, k1, k2⟩ := O
  obtain ⟨i0, i1, i2, i3, j0, j1, j2, j3⟩ := hm
  obtain ⟨n31, n32⟩ := n3
  have cX := so2_c X
  have cY := so2_c Y
  have wX := wh2_lt X
  have wY := wh2_lt Y
  have pX := pw2_b X
  have pY := pw2_b Y
  have s2 : ∀ s : Nat, s ≤ 3 → (Int32.ofInt (s : Int) = (2 : Int32)) = (s = 2) := fun s hs => so2_i s 2 hs (by decide)
  have s1 : ∀ s : Nat, s ≤ 3 → (Int32.ofInt (s : Int) = (1 : Int32)) = (s = 1) := fun s hs => so2_i s 1 hs (by decide)
  have ni : fX16_withSign 2 (bI gy) (fX16_infinite 2) = Int64.ofNat (sg2 gy + 2139095040) := by
    rw [show fX16_infinite 2 = Int64.ofNat 2139095040 by decide]
    exact mw2 gy (by decide)
  have nz : ∀ g : Bool, fX16_withSign 2 (bI g) 0 = Int64.ofNat (sg2 g) := fun g => mw2 g (a := 0) (by decide)
  have ny : fX16_withSign 2 (bI gy) (Int64.ofNat Y &&& (fX16_signOf 2 ^^^ (-1))) = Int64.ofNat (sg2 gy + Y % 2147483648) := by
    rw [show fX16_signOf 2 = 2147483648 by decide, cs2_m hY]
    exact mw2 gy (by omega)
  have lt : (Int32.ofInt (pw2 X) < Int32.ofInt (pw2 Y)) = (pw2 X < pw2 Y) := zz_lt (by omega) (by omega) (by omega) (by omega)
  unfold fX16_sum_b114 fX16_sum_b207 su2
  simp only [k, r1, r2, k1, k2, i0, j0, i1, j1, i3, j3, lt, if_true, jr_bs, jr_let, s2 (so2 X) (by omega), s2 (so2 Y) (by omega), s1 (so2 X) (by omega), s1 (so2 Y) (by omega), ni, ny, bI_0]
  by_cases c4 : so2 X = 2
  · rw [if_pos c4, if_neg (by omega), if_pos c4, if_neg (fun z => n2 ⟨c4, z⟩)]
  rw [if_neg c4, if_neg (show ¬ (so2 X = 3 ∨ so2 Y = 3) by omega), if_neg c4]
  by_cases c5 : so2 Y = 2
  · rw [if_pos c5, if_pos c5]
  rw [if_neg c5, if_neg c5]
  by_cases c6 : so2 X = 1
  · by_cases c7 : so2 Y = 1
    · have z0 := nz false
      have z1 := nz true
      rw [show bI false = 0 from rfl] at z0
      rw [show bI true = 1 from rfl] at z1
      simp only [c6, c7, if_true, z0, z1]
      cases ng2 X with
      | false => rfl
      | true => cases gy <;> rfl
    · simp only [c6, c7, if_true, if_false]
  by_cases c7 : so2 Y = 1
  · simp only [c6, c7, if_true, if_false]
  simp only [c6, c7, if_false]
  have x0 := wh2_0 (X := X) (by omega)
  have y0 := wh2_0 (X := Y) (by omega)
  unfold cn2
  by_cases c8 : pw2 X < pw2 Y
  · have S := js2_of k2 k1 j0 i0 j2 i2 j3 i3 y0 (by omega) x0 (by omega) (by omega) (by omega) (by omega)
    rw [if_pos c8, if_pos c8, S, jr_bs, fg_cn _ _ y0 (by omega) (by omega), fg_sw]
  · have S := js2_of k1 k2 i0 j0 i2 j2 i3 j3 x0 (by omega) y0 (by omega) (by omega) (by omega) (by omega)
    rw [if_neg c8, if_neg c8, S, jr_bs, fg_cn _ _ x0 (by omega) (by omega)]
def cn3 (X : Nat) (gx : Bool) (Y : Nat) (gy : Bool) : Nat := fg 63 53 (-1074) 2047 gx (wh3 X * 2 ^ (pw3 X + 3000).toNat) gy (wh3 Y * 2 ^ (pw3 Y + 3000).toNat) (-3000)
def su3 (X Y : Nat) (gy : Bool) : Nat := if so3 X = 3 ∨ so3 Y = 3 then 9221120237041090560 else if so3 X = 2 then (if so3 Y = 2 ∧ (ng3 X ^^ gy) = true then 9221120237041090560 else X) else if so3 Y = 2 then sg3 gy + 9218868437227405312 else if so3 X = 1 then (if so3 Y = 1 then sg3 (ng3 X && gy) else sg3 gy + Y % 9223372036854775808) else if so3 Y = 1 then X else cn3 X (ng3 X) Y gy
theorem mn3_b {H : pm_H} (O : mO H) {X Y : Nat} (hX : X < 18446744073709551616) (hY : Y < 18446744073709551616) {gy : Bool} (hm : m2 H (ng3 X) (so3 X) (wh3 X) (pw3 X) gy (so3 Y) (wh3 Y) (pw3 Y)) (n3 : so3 X ≠ 3 ∧ so3 Y ≠ 3) (n2 : ¬ (so3 X = 2 ∧ so3 Y = 2 ∧ (ng3 X ^^ gy) = true)) : fX16_sum_b114 H 592 3 (Int64.ofNat X) (Int64.ofNat Y) = some (Int64.ofNat (su3 X Y gy), H) := by
  obtain ⟨k, r1, r2, k1, k2⟩ := O
  obtain ⟨i0, i1, i2, i3, j0, j1, j2, j3⟩ := hm
  obtain ⟨n31, n32⟩ := n3
  have cX := so3_c X
  have cY := so3_c Y
  have wX := wh3_lt X
  have wY := wh3_lt Y
  have pX := pw3_b X
  have pY := pw3_b Y
  have s2 : ∀ s : Nat, s ≤ 3 → (Int32.ofInt (s : Int) = (2 : Int32)) = (s = 2) := fun s hs => so3_i s 2 hs (by decide)
  have s1 : ∀ s : Nat, s ≤ 3 → (Int32.ofInt (s : Int) = (1 : Int32)) = (s = 1) := fun s hs => so3_i s 1 hs (by decide)
  have ni : fX16_withSign 3 (bI gy) (fX16_infinite 3) = Int64.ofNat (sg3 gy + 9218868437227405312) := by
    rw [show fX16_infinite 3 = Int64.ofNat 9218868437227405312 by decide]
    exact mw3 gy (by decide)
  have nz : ∀ g : Bool, fX16_withSign 3 (bI g) 0 = Int64.ofNat (sg3 g) := fun g => mw3 g (a := 0) (by decide)
  have ny : fX16_withSign 3 (bI gy) (Int64.ofNat Y &&& (fX16_signOf 3 ^^^ (-1))) = Int64.ofNat (sg3 gy + Y % 9223372036854775808) := by
    rw [show fX16_signOf 3 = (-9223372036854775808) by decide, cs3_m hY]
    exact mw3 gy (by omega)
  have lt : (Int32.ofInt (pw3 X) < Int32.ofInt (pw3 Y)) = (pw3 X < pw3 Y) := zz_lt (by omega) (by omega) (by omega) (by omega)
  unfold fX16_sum_b114 fX16_sum_b207 su3
  simp only [k, r1, r2, k1, k2, i0, j0, i1, j1, i3, j3, lt, if_true, jr_bs, jr_let, s2 (so3 X) (by omega), s2 (so3 Y) (by omega), s1 (so3 X) (by omega), s1 (so3 Y) (by omega), ni, ny, bI_0]
  by_cases c4 : so3 X = 2
  · rw [if_pos c4, if_neg (by omega), if_pos c4, if_neg (fun z => n2 ⟨c4, z⟩)]
  rw [if_neg c4, if_neg (show ¬ (so3 X = 3 ∨ so3 Y = 3) by omega), if_neg c4]
  by_cases c5 : so3 Y = 2
  · rw [if_pos c5, if_pos c5]
  rw [if_neg c5, if_neg c5]
  by_cases c6 : so3 X = 1
  · by_cases c7 : so3 Y = 1
    · have z0 := nz false
      have z1 := nz true
      rw [show bI false = 0 from rfl] at z0
      rw [show bI true = 1 from rfl] at z1
      simp only [c6, c7, if_true, z0, z1]
      cases ng3 X with
      | false => rfl
      | true => cases gy <;> rfl
    · simp only [c6, c7, if_true, if_false]
  by_cases c7 : so3 Y = 1
  · simp only [c6, c7, if_true, if_false]
  simp only [c6, c7, if_false]
  have x0 := wh3_0 (X := X) (by omega)
  have y0 := wh3_0 (X := Y) (by omega)
  unfold cn3
  by_cases c8 : pw3 X < pw3 Y
  · have S := js3_of k2 k1 j0 i0 j2 i2 j3 i3 y0 (by omega) x0 (by omega) (by omega) (by omega) (by omega)
    rw [if_pos c8, if_pos c8, S, jr_bs, fg_cn _ _ y0 (by omega) (by omega), fg_sw]
  · have S := js3_of k1 k2 i0 j0 i2 j2 i3 j3 x0 (by omega) y0 (by omega) (by omega) (by omega) (by omega)
    rw [if_neg c8, if_neg c8, S, jr_bs, fg_cn _ _ x0 (by omega) (by omega)]
