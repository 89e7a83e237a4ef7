/-! NUMBERS: order, the lesser and the greater, from one type to the other -/
theorem jl_it {x : Nat} (h : x < 9223372036854775808) : (Int64.ofNat x).toInt = x := Int64.toInt_ofNat_of_lt h
theorem jl_in {x : Nat} (h : x < 9223372036854775808) : (-Int64.ofNat x).toInt = -(x : Int) := by
  rw [Int64.toInt_neg_ofNat_of_le (by omega)]
theorem jl_i1 {x : Nat} (h : x < 9223372036854775808) : ((-1 : Int64) - Int64.ofNat x).toInt = -1 - (x : Int) := by
  rw [show (-1 : Int64) - Int64.ofNat x = -Int64.ofNat (x + 1) by rw [← ll_ad, Int64.neg_add, ← n6_1, Int64.sub_eq_add_neg, Int64.sub_eq_add_neg, Int64.add_comm], Int64.toInt_neg_ofNat_of_le (by omega)]
  omega
theorem jl_le (a b : Int64) : (a ≤ b) = (a.toInt ≤ b.toInt) := propext Int64.le_iff_toInt_le
theorem jl_lt (a b : Int64) : (a < b) = (a.toInt < b.toInt) := propext Int64.lt_iff_toInt_lt
theorem jl_ie (a b : Int64) : (a = b) = (a.toInt = b.toInt) := propext ⟨fun e => by rw [e], fun e => Int64.toInt.inj e⟩
def co2 (X : Nat) : Int := if 2147483648 ≤ X then -1 - ((X % 2147483648 : Nat) : Int) else (X : Int)
def ru2 (X : Nat) : Int := if 2147483648 ≤ X then -((X % 2147483648 : Nat) : Int) else (X : Int)
theorem cO2 {X : Nat} (h : X < 4294967296) : (fX8_order 2 (Int64.ofNat X)).toInt = co2 X := by
  unfold fX8_order co2
  simp only [eq_self, if_true, if_false]
  by_cases c : X < 2147483648
  · rw [if_pos (by rw [jl_sg2 h]; exact c), if_neg (by omega), jl_it (by omega)]
  · rw [if_neg (by rw [jl_sg2 h]; exact c), if_pos (by omega), cs2_m h, jl_i1 (by omega)]
theorem mO2 {X : Nat} (h : X < 4294967296) : (fX16_order 2 (Int64.ofNat X)).toInt = ru2 X := by
  unfold fX16_order ru2
  rw [show fX16_signOf 2 = 2147483648 by decide]
  simp only [jr_let, cs2_m h]
  by_cases c : X < 2147483648
  · rw [if_pos (by rw [jl_sg2 h]; exact c), if_neg (by omega), Nat.mod_eq_of_lt c, jl_it (by omega)]
  · rw [if_neg (by rw [jl_sg2 h]; exact c), if_pos (by omega), jl_in (by omega)]
/-- the lesser (l) or the greater -/
def mi2 (l : Bool) (X Y : Nat) : Nat := if so2 X = 3 ∨ so2 Y = 3 then 2143289344 else if l = true then (if co2 X ≤ co2 Y then X else Y) else (if co2 Y ≤ co2 X then X else Y)
theorem ng2_i (X : Nat) : (ng2 X = true) = (2147483648 ≤ X) := by unfold ng2; rw [decide_eq_true_eq]
theorem mx2 {h : pm_H} (O : mO h) {X Y : Nat} (hX : X < 4294967296) (hY : Y < 4294967296) (l : Bool) : fX16_extreme h 592 2 (Int64.ofNat X) (Int64.ofNat Y) (bI l) = some (Int64.ofNat (mi2 l X Y), rv (rv h 605 (ng2 X) (so2 X) (wh2 X) (pw2 X)) 606 (ng2 Y) (so2 Y) (wh2 Y) (pw2 Y)) := by
  have O1 := rv_O 605 (ng2 X) (so2 X) (wh2 X) (pw2 X) O
  have O2 := rv_O 606 (ng2 Y) (so2 Y) (wh2 Y) (pw2 Y) O1
  have e1 := mf2 (h := h) (a := 605) O.2.2.2.1 hX
  have e2 := mf2 (h := rv h 605 (ng2 X) (so2 X) (wh2 X) (pw2 X)) (a := 606) O1.2.2.2.2 hY
  have hm := m2_rv h (ng2 X) (so2 X) (wh2 X) (pw2 X) (ng2 Y) (so2 Y) (wh2 Y) (pw2 Y)
  have cX := so2_c X
  have cY := so2_c Y
  have s3 : ∀ s : Nat, s ≤ 3 → (Int32.ofInt (s : Int) = (3 : Int32)) = (s = 3) := fun s hs => so2_i s 3 hs (by decide)
  have s1 : ∀ s : Nat, s ≤ 3 → (Int32.ofInt (s : Int) = (1 : Int32)) = (s = 1) := fun s hs => so2_i s 1 hs (by decide)
  have nn : fX16_noneOf 2 = Int64.ofNat 2143289344 := by decide
  have z0 : fX16_withSign 2 0 0 = Int64.ofNat 0 := by decide
  have z1 : fX16_withSign 2 1 0 = Int64.ofNat 2147483648 := by decide
  unfold fX16_extreme
  rw [if_pos O.1, O.2.1, jr_bs, if_pos O.2.2.2.1, e1, jr_bs, if_pos O1.1, O1.2.2.1, jr_bs, if_pos O1.2.2.2.2, e2, jr_bs]
  generalize rv (rv h 605 (ng2 X) (so2 X) (wh2 X) (pw2 X)) 606 (ng2 Y) (so2 Y) (wh2 Y) (pw2 Y) = H at *
  obtain ⟨k, r1, r2, k1, k2⟩ := O2
  obtain ⟨i0, i1, i2, i3, j0, j1, j2, j3⟩ := hm
  have o0 : ((0 : Int32) = bI l) = (l = false) := by cases l <;> decide
  have o1 : ((1 : Int32) = bI l) = (l = true) := by cases l <;> decide
  have nx : (ng2 X = false) = (X < 2147483648) := by unfold ng2; rw [decide_eq_false_iff_not]; exact propext ⟨fun z => by omega, fun z => by omega⟩
  have ny : (ng2 Y = false) = (Y < 2147483648) := by unfold ng2; rw [decide_eq_false_iff_not]; exact propext ⟨fun z => by omega, fun z => by omega⟩
  have B : ¬ (so2 X = 1 ∧ so2 Y = 1) → so2 X ≠ 3 → so2 Y ≠ 3 → fX16_extreme_b132 H 2 (Int64.ofNat X) (Int64.ofNat Y) (bI l) = some (Int64.ofNat (mi2 l X Y), H) := by
    intro n1 n2 n3
    unfold fX16_extreme_b132 mi2
    simp only [jr_let, jl_le, mO2 hX, mO2 hY, o0, o1]
    rw [if_neg (show ¬ (so2 X = 3 ∨ so2 Y = 3) by omega)]
    cases l with
    | false =>
      rw [if_pos (show false = false from rfl), if_neg (show ¬ false = true by decide), if_neg (show ¬ false = true by decide)]
      unfold ru2 co2
      by_cases a1 : 2147483648 ≤ X <;> by_cases a2 : 2147483648 ≤ Y <;> simp only [a1, a2, if_true, if_false]
      · by_cases a3 : -((Y % 2147483648 : Nat) : Int) ≤ -((X % 2147483648 : Nat) : Int)
        · rw [if_pos a3, if_pos (by omega)]
        · rw [if_neg a3, if_neg (by omega)]
      · by_cases a3 : (Y : Int) ≤ -((X % 2147483648 : Nat) : Int)
        · rw [if_pos a3, if_neg (by omega)]
          omega
        · rw [if_neg a3, if_neg (by omega)]
      · by_cases a3 : -((Y % 2147483648 : Nat) : Int) ≤ (X : Int)
        · rw [if_pos a3, if_pos (by omega)]
        · rw [if_neg a3, if_neg (by omega)]
      · by_cases a3 : (Y : Int) ≤ (X : Int)
        · rw [if_pos a3, if_pos a3]
        · rw [if_neg a3, if_neg a3]
    | true =>
      rw [if_neg (show ¬ true = false by decide), if_pos (show true = true from rfl), if_pos (show true = true from rfl)]
      unfold ru2 co2
      by_cases a1 : 2147483648 ≤ X <;> by_cases a2 : 2147483648 ≤ Y <;> simp only [a1, a2, if_true, if_false]
      · by_cases a3 : -((Y % 2147483648 : Nat) : Int) ≤ -((X % 2147483648 : Nat) : Int)
        · rw [if_pos a3]
          by_cases a4 : -1 - ((X % 2147483648 : Nat) : Int) ≤ -1 - ((Y % 2147483648 : Nat) : Int)
          · rw [if_pos a4, show X = Y by omega]
          · rw [if_neg a4]
        · rw [if_neg a3, if_pos (by omega)]
      · by_cases a3 : (Y : Int) ≤ -((X % 2147483648 : Nat) : Int)
        · omega
        · rw [if_neg a3, if_pos (by omega)]
      · by_cases a3 : -((Y % 2147483648 : Nat) : Int) ≤ (X : Int)
        · rw [if_pos a3, if_neg (by omega)]
        · omega
      · by_cases a3 : (Y : Int) ≤ (X : Int)
        · rw [if_pos a3]
          by_cases a4 : (X : Int) ≤ (Y : Int)
          · rw [if_pos a4, show X = Y by omega]
          · rw [if_neg a4]
        · rw [if_neg a3, if_pos (by omega)]
  simp only [k, r1, r2, k1, k2, i0, j0, i1, j1, if_true, jr_bs, jr_let, s3 (so2 X) (by omega), s3 (so2 Y) (by omega), s1 (so2 X) (by omega), s1 (so2 Y) (by omega), nn, z0, z1, bI_0, nx, ny]
  by_cases c1 : so2 X = 3
  · rw [if_pos c1]
    unfold mi2
    rw [if_pos (.inl c1)]
  rw [if_neg c1]
  by_cases c2 : so2 Y = 3
  · rw [if_pos c2]
    unfold mi2
    rw [if_pos (.inr c2)]
  rw [if_neg c2]
  by_cases c3 : so2 X = 1
  · rw [if_pos c3]
    by_cases c4 : so2 Y = 1
    · rw [if_pos c4]
      unfold mi2 co2
      rw [if_neg (show ¬ (so2 X = 3 ∨ so2 Y = 3) by omega)]
      cases l with
      | false =>
        rw [if_pos (show false = false from rfl), if_neg (show ¬ false = true by decide)]
        by_cases a1 : X < 2147483648 <;> by_cases a2 : Y < 2147483648
        · rw [if_pos a1, if_neg (show ¬ 2147483648 ≤ X by omega), if_neg (show ¬ 2147483648 ≤ Y by omega), if_pos (by omega), show X = 0 by omega]
        · rw [if_pos a1, if_neg (show ¬ 2147483648 ≤ X by omega), if_pos (show 2147483648 ≤ Y by omega), if_pos (by omega), show X = 0 by omega]
        · rw [if_neg a1, if_pos a2, if_pos (show 2147483648 ≤ X by omega), if_neg (show ¬ 2147483648 ≤ Y by omega), if_neg (by omega), show Y = 0 by omega]
        · rw [if_neg a1, if_neg a2, if_pos (show 2147483648 ≤ X by omega), if_pos (show 2147483648 ≤ Y by omega), if_pos (by omega), show X = 2147483648 by omega]
      | true =>
        rw [if_neg (show ¬ true = false by decide), if_pos (show true = true from rfl)]
        by_cases a1 : X < 2147483648 <;> by_cases a2 : Y < 2147483648
        · rw [if_pos a1, if_pos a2, if_neg (show ¬ 2147483648 ≤ X by omega), if_neg (show ¬ 2147483648 ≤ Y by omega), if_pos (by omega), show X = 0 by omega]
        · rw [if_pos a1, if_neg a2, if_neg (show ¬ 2147483648 ≤ X by omega), if_pos (show 2147483648 ≤ Y by omega), if_neg (by omega), show Y = 2147483648 by omega]
        · rw [if_neg a1, if_pos (show 2147483648 ≤ X by omega), if_neg (show ¬ 2147483648 ≤ Y by omega), if_pos (by omega), show X = 2147483648 by omega]
        · rw [if_neg a1, if_pos (show 2147483648 ≤ X by omega), if_pos (show 2147483648 ≤ Y by omega), if_pos (by omega), show X = 2147483648 by omega]
    · rw [if_neg c4, B (fun z => c4 z.2) c1 c2]
  · rw [if_neg c3, B (fun z => c3 z.1) c1 c2]
def co3 (X : Nat) : Int := if 9223372036854775808 ≤ X then -1 - ((X % 9223372036854775808 : Nat) : Int) else (X : Int)
def ru3 (X : Nat) : Int := if 9223372036854775808 ≤ X then -((X % 9223372036854775808 : Nat) : Int) else (X : Int)
theorem cO3 {X : Nat} (h : X < 18446744073709551616) : (fX8_order 3 (Int64.ofNat X)).toInt = co3 X := by
  unfold fX8_order co3
  simp only [show ((3 : Int32) = 2) = False from eq_false (by decide), if_true, if_false]
  by_cases c : X < 9223372036854775808
  · rw [if_pos (by rw [jl_sg3 h]; exact c), if_neg (by omega), jl_it (by omega)]
  · rw [if_neg (by rw [jl_sg3 h]; exact c), if_pos (by omega), cs3_m h, jl_i1 (by omega)]
theorem mO3 {X : Nat} (h : X < 18446744073709551616) : (fX16_order 3 (Int64.ofNat X)).toInt = ru3 X := by
  unfold fX16_order ru3
  rw [show fX16_signOf 3 = (-9223372036854775808) by decide]
  simp only [jr_let, cs3_m h]
  by_cases c : X < 9223372036854775808
  · rw [if_pos (by rw [jl_sg3 h]; exact c), if_neg (by omega), Nat.mod_eq_of_lt c, jl_it (by omega)]
  · rw [if_neg (by rw [jl_sg3 h]; exact c), if_pos (by omega), jl_in (by omega)]
/-- the lesser (l) or the greater -/
def mi3 (l : Bool) (X Y : Nat) : Nat := if so3 X = 3 ∨ so3 Y = 3 then 9221120237041090560 else if l = true then (if co3 X ≤ co3 Y then X else Y) else (if co3 Y ≤ co3 X then X else Y)
theorem ng3_i (X : Nat) : (ng3 X = true) = (9223372036854775808 ≤ X) := by unfold ng3; rw [decide_eq_true_eq]
theorem mx3 {h : pm_H} (O : mO h) {X Y : Nat} (hX : X < 18446744073709551616) (hY : Y < 18446744073709551616) (l : Bool) : fX16_extreme h 592 3 (Int64.ofNat X) (Int64.ofNat Y) (bI l) = some (Int64.ofNat (mi3 l X Y), rv (rv h 605 (ng3 X) (so3 X) (wh3 X) (pw3 X)) 606 (ng3 Y) (so3 Y) (wh3 Y) (pw3 Y)) := by
  have O1 := rv_O 605 (ng3 X) (so3 X) (wh3 X) (pw3 X) O
  have O2 := rv_O 606 (ng3 Y) (so3 Y) (wh3 Y) (pw3 Y) O1
  have e1 := mf3 (h := h) (a := 605) O.2.2.2.1 hX
  have e2 := mf3 (h := rv h 605 (ng3 X) (so3 X) (wh3 X) (pw3 X)) (a := 606) O1.2.2.2.2 hY
  have hm := m2_rv h (ng3 X) (so3 X) (wh3 X) (pw3 X) (ng3 Y) (so3 Y) (wh3 Y) (pw3 Y)
  have cX := so3_c X
  have cY := so3_c Y
  have s3 : ∀ s : Nat, s ≤ 3 → (Int32.ofInt (s : Int) = (3 : Int32)) = (s = 3) := fun s hs => so3_i s 3 hs (by decide)
  have s1 : ∀ s : Nat, s ≤ 3 → (Int32.ofInt (s : Int) = (1 : Int32)) = (s = 1) := fun s hs => so3_i s 1 hs (by decide)
  have nn : fX16_noneOf 3 = Int64.ofNat 9221120237041090560 := by decide
  have z0 : fX16_withSign 3 0 0 = Int64.ofNat 0 := by decide
  have z1 : fX16_withSign 3 1 0 = Int64.ofNat 9223372036854775808 := by decide
  unfold fX16_extreme
  rw [if_pos O.1, O.2.1, jr_bs, if_pos O.2.2.2.1, e1, jr_bs, if_pos O1.1, O1.2.2.1, jr_bs, if_pos O1.2.2.2.2, e2, jr_bs]
  generalize rv (rv h 605 (ng3 X) (so3 X) (wh3 X) (pw3 X)) 606 (ng3 Y) (so3 Y) (wh3 Y) (pw3 Y) = H at *
  obtain ⟨k, r1, r2, k1, k2⟩ := O2
  obtain ⟨i0, i1, i2, i3, j0, j1, j2, j3⟩ := hm
  have o0 : ((0 : Int32) = bI l) = (l = false) := by cases l <;> decide
  have o1 : ((1 : Int32) = bI l) = (l = true) := by cases l <;> decide
  have nx : (ng3 X = false) = (X < 9223372036854775808) := by unfold ng3; rw [decide_eq_false_iff_not]; exact propext ⟨fun z => by omega, fun z => by omega⟩
  have ny : (ng3 Y = false) = (Y < 9223372036854775808) := by unfold ng3; rw [decide_eq_false_iff_not]; exact propext ⟨fun z => by omega, fun z => by omega⟩
  have B : ¬ (so3 X = 1 ∧ so3 Y = 1) → so3 X ≠ 3 → so3 Y ≠ 3 → fX16_extreme_b132 H 3 (Int64.ofNat X) (Int64.ofNat Y) (bI l) = some (Int64.ofNat (mi3 l X Y), H) := by
    intro n1 n2 n3
    unfold fX16_extreme_b132 mi3
    simp only [jr_let, jl_le, mO3 hX, mO3 hY, o0, o1]
    rw [if_neg (show ¬ (so3 X = 3 ∨ so3 Y = 3) by omega)]
    cases l with
    | false =>
      rw [if_pos (show false = false from rfl), if_neg (show ¬ false = true by decide), if_neg (show ¬ false = true by decide)]
      unfold ru3 co3
      by_cases a1 : 9223372036854775808 ≤ X <;> by_cases a2 : 9223372036854775808 ≤ Y <;> simp only [a1, a2, if_true, if_false]
      · by_cases a3 : -((Y % 9223372036854775808 : Nat) : Int) ≤ -((X % 9223372036854775808 : Nat) : Int)
        · rw [if_pos a3, if_pos (by omega)]
        · rw [if_neg a3, if_neg (by omega)]
      · by_cases a3 : (Y : Int) ≤ -((X % 9223372036854775808 : Nat) : Int)
        · rw [if_pos a3, if_neg (by omega)]
          omega
        · rw [if_neg a3, if_neg (by omega)]
      · by_cases a3 : -((Y % 9223372036854775808 : Nat) : Int) ≤ (X : Int)
        · rw [if_pos a3, if_pos (by omega)]
        · rw [if_neg a3, if_neg (by omega)]
      · by_cases a3 : (Y : Int) ≤ (X : Int)
        · rw [if_pos a3, if_pos a3]
        · rw [if_neg a3, if_neg a3]
    | true =>
      rw [if_neg (show ¬ true = false by decide), if_pos (show true = true from rfl), if_pos (show true = true from rfl)]
      unfold ru3 co3
      by_cases a1 : 9223372036854775808 ≤ X <;> by_cases a2 : 9223372036854775808 ≤ Y <;> simp only [a1, a2, if_true, if_false]
      · by_cases a3 : -((Y % 9223372036854775808 : Nat) : Int) ≤ -((X % 9223372036854775808 : Nat) : Int)
        · rw [if_pos a3]
          by_cases a4 : -1 - ((X % 9223372036854775808 : Nat) : Int) ≤ -1 - ((Y % 9223372036854775808 : Nat) : Int)
          · rw [if_pos a4, show X = Y by omega]
          · rw [if_neg a4]
        · rw [if_neg a3, if_pos (by omega)]
      · by_cases a3 : (Y : Int) ≤ -((X % 9223372036854775808 : Nat) : Int)
        · omega
        · rw [if_neg a3, if_pos (by omega)]
      · by_cases a3 : -((Y % 9223372036854775808 : Nat) : Int) ≤ (X : Int)
        · rw [if_pos a3, if_neg (by omega)]
        · omega
      · by_cases a3 : (Y : Int) ≤ (X : Int)
        · rw [if_pos a3]
          by_cases a4 : (X : Int) ≤ (Y : Int)
          · rw [if_pos a4, show X = Y by omega]
          · rw [if_neg a4]
        · rw [if_neg a3, if_pos (by omega)]
  simp only [k, r1, r2, k1, k2, i0, j0, i1, j1, if_true, jr_bs, jr_let, s3 (so3 X) (by omega), s3 (so3 Y) (by omega), s1 (so3 X) (by omega), s1 (so3 Y) (by omega), nn, z0, z1, bI_0, nx, ny]
  by_cases c1 : so3 X = 3
  · rw [if_pos c1]
    unfold mi3
    rw [if_pos (.inl c1)]
  rw [if_neg c1]
  by_cases c2 : so3 Y = 3
  · rw [if_pos c2]
    unfold mi3
    rw [if_pos (.inr c2)]
  rw [if_neg c2]
  by_cases c3 : so3 X = 1
  · rw [if_pos c3]
    by_cases c4 : so3 Y = 1
    · rw [if_pos c4]
      unfold mi3 co3
      rw [if_neg (show ¬ (so3 X = 3 ∨ so3 Y = 3) by omega)]
      cases l with
      | false =>
        rw [if_pos (show false = false from rfl), if_neg (show ¬ false = true by decide)]
        by_cases a1 : X < 9223372036854775808 <;> by_cases a2 : Y < 9223372036854775808
        · rw [if_pos a1, if_neg (show ¬ 9223372036854775808 ≤ X by omega), if_neg (show ¬ 9223372036854775808 ≤ Y by omega), if_pos (by omega), show X = 0 by omega]
        · rw [if_pos a1, if_neg (show ¬ 9223372036854775808 ≤ X by omega), if_pos (show 9223372036854775808 ≤ Y by omega), if_pos (by omega), show X = 0 by omega]
        · rw [if_neg a1, if_pos a2, if_pos (show 9223372036854775808 ≤ X by omega), if_neg (show ¬ 9223372036854775808 ≤ Y by omega), if_neg (by omega), show Y = 0 by omega]
        · rw [if_neg a1, if_neg a2, if_pos (show 9223372036854775808 ≤ X by omega), if_pos (show 9223372036854775808 ≤ Y by omega), if_pos (by omega), show X = 9223372036854775808 by omega]
      | true =>
        rw [if_neg (show ¬ true = false by decide), if_pos (show true = true from rfl)]
        by_cases a1 : X < 9223372036854775808 <;> by_cases a2 : Y < 9223372036854775808
        · rw [if_pos a1, if_pos a2, if_neg (show ¬ 9223372036854775808 ≤ X by omega), if_neg (show ¬ 9223372036854775808 ≤ Y by omega), if_pos (by omega), show X = 0 by omega]
        · rw [if_pos a1, if_neg a2, if_neg (show ¬ 9223372036854775808 ≤ X by omega), if_pos (show 9223372036854775808 ≤ Y by omega), if_neg (by omega), show Y = 9223372036854775808 by omega]
        · rw [if_neg a1, if_pos (show 9223372036854775808 ≤ X by omega), if_neg (show ¬ 9223372036854775808 ≤ Y by omega), if_pos (by omega), show X = 9223372036854775808 by omega]
        · rw [if_neg a1, if_pos (show 9223372036854775808 ≤ X by omega), if_pos (show 9223372036854775808 ≤ Y by omega), if_pos (by omega), show X = 9223372036854775808 by omega]
    · rw [if_neg c4, B (fun z => c4 z.2) c1 c2]
  · rw [if_neg c3, B (fun z => c3 z.1) c1 c2]
