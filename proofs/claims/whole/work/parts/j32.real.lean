/-! NUMBERS: the floating operators, one by one -/
theorem mR2_0 {h : pm_H} (O : mO h) {X Y : Nat} (hX : X < 4294967296) (hY : Y < 4294967296) : ∃ h', fX16_real h 592 0 2 (Int64.ofNat X) (Int64.ofNat Y) = some (Int64.ofNat (fo2 0 X Y), h') ∧ nG h h' := by
  unfold fX16_real
  simp only [ni_0_1, ni_0_2, ni_0_3, ni_0_4, ni_0_5, ni_0_6, ni_0_7, ni_0_8, ni_0_9, ni_0_10, ni_0_11, ni_0_12, ni_0_13, if_true, if_false, O.1]
  refine ⟨h, ?_, nG_r h⟩
  rw [jr_let, show fX16_signOf 2 = 2147483648 by decide, cs2_m hX]
  rfl
theorem mR2_1 {h : pm_H} (O : mO h) {X Y : Nat} (hX : X < 4294967296) (hY : Y < 4294967296) : ∃ h', fX16_real h 592 1 2 (Int64.ofNat X) (Int64.ofNat Y) = some (Int64.ofNat (fo2 1 X Y), h') ∧ nG h h' := by
  unfold fX16_real
  simp only [ni_1_0, ni_1_2, ni_1_3, ni_1_4, ni_1_5, ni_1_6, ni_1_7, ni_1_8, ni_1_9, ni_1_10, ni_1_11, ni_1_12, ni_1_13, if_true, if_false, O.1]
  refine ⟨h, ?_, nG_r h⟩
  rw [jr_let, show fX16_signOf 2 = 2147483648 by decide, sx2 hX]
  rfl
theorem mR2_2 {h : pm_H} (O : mO h) {X Y : Nat} (hX : X < 4294967296) (hY : Y < 4294967296) : ∃ h', fX16_real h 592 2 2 (Int64.ofNat X) (Int64.ofNat Y) = some (Int64.ofNat (fo2 2 X Y), h') ∧ nG h h' := by
  unfold fX16_real
  simp only [ni_2_0, ni_2_1, ni_2_3, ni_2_4, ni_2_5, ni_2_6, ni_2_7, ni_2_8, ni_2_9, ni_2_10, ni_2_11, ni_2_12, ni_2_13, if_true, if_false, O.1]
  refine ⟨rv h 605 (ng2 X) (so2 X) (wh2 X) (pw2 X), ?_, nG_rv h (.inl rfl) _ _ _ _⟩
  rw [show (2 : Int32) - 2 = Int32.ofInt ((0 : Nat) : Int) from rfl, mo2 O hX (by decide), jr_bs]
  rfl
theorem mR2_3 {h : pm_H} (O : mO h) {X Y : Nat} (hX : X < 4294967296) (hY : Y < 4294967296) : ∃ h', fX16_real h 592 3 2 (Int64.ofNat X) (Int64.ofNat Y) = some (Int64.ofNat (fo2 3 X Y), h') ∧ nG h h' := by
  unfold fX16_real
  simp only [ni_3_0, ni_3_1, ni_3_2, ni_3_4, ni_3_5, ni_3_6, ni_3_7, ni_3_8, ni_3_9, ni_3_10, ni_3_11, ni_3_12, ni_3_13, if_true, if_false, O.1]
  refine ⟨rv h 605 (ng2 X) (so2 X) (wh2 X) (pw2 X), ?_, nG_rv h (.inl rfl) _ _ _ _⟩
  rw [show (3 : Int32) - 2 = Int32.ofInt ((1 : Nat) : Int) from rfl, mo2 O hX (by decide), jr_bs]
  rfl
theorem mR2_4 {h : pm_H} (O : mO h) {X Y : Nat} (hX : X < 4294967296) (hY : Y < 4294967296) : ∃ h', fX16_real h 592 4 2 (Int64.ofNat X) (Int64.ofNat Y) = some (Int64.ofNat (fo2 4 X Y), h') ∧ nG h h' := by
  unfold fX16_real
  simp only [ni_4_0, ni_4_1, ni_4_2, ni_4_3, ni_4_5, ni_4_6, ni_4_7, ni_4_8, ni_4_9, ni_4_10, ni_4_11, ni_4_12, ni_4_13, if_true, if_false, O.1]
  refine ⟨rv h 605 (ng2 X) (so2 X) (wh2 X) (pw2 X), ?_, nG_rv h (.inl rfl) _ _ _ _⟩
  rw [show (4 : Int32) - 2 = Int32.ofInt ((2 : Nat) : Int) from rfl, mo2 O hX (by decide), jr_bs]
  rfl
theorem mR2_5 {h : pm_H} (O : mO h) {X Y : Nat} (hX : X < 4294967296) (hY : Y < 4294967296) : ∃ h', fX16_real h 592 5 2 (Int64.ofNat X) (Int64.ofNat Y) = some (Int64.ofNat (fo2 5 X Y), h') ∧ nG h h' := by
  unfold fX16_real
  simp only [ni_5_0, ni_5_1, ni_5_2, ni_5_3, ni_5_4, ni_5_6, ni_5_7, ni_5_8, ni_5_9, ni_5_10, ni_5_11, ni_5_12, ni_5_13, if_true, if_false, O.1]
  refine ⟨rv h 605 (ng2 X) (so2 X) (wh2 X) (pw2 X), ?_, nG_rv h (.inl rfl) _ _ _ _⟩
  rw [show (5 : Int32) - 2 = Int32.ofInt ((3 : Nat) : Int) from rfl, mo2 O hX (by decide), jr_bs]
  rfl
theorem mR2_6 {h : pm_H} (O : mO h) {X Y : Nat} (hX : X < 4294967296) (hY : Y < 4294967296) : ∃ h', fX16_real h 592 6 2 (Int64.ofNat X) (Int64.ofNat Y) = some (Int64.ofNat (fo2 6 X Y), h') ∧ nG h h' := by
  unfold fX16_real
  simp only [ni_6_0, ni_6_1, ni_6_2, ni_6_3, ni_6_4, ni_6_5, ni_6_7, ni_6_8, ni_6_9, ni_6_10, ni_6_11, ni_6_12, ni_6_13, if_true, if_false, O.1]
  refine ⟨rv h 605 (ng2 X) (so2 X) (wh2 X) (pw2 X), ?_, nG_rv h (.inl rfl) _ _ _ _⟩
  rw [mt2 O hX, jr_bs]
  rfl
theorem mR2_7 {h : pm_H} (O : mO h) {X Y : Nat} (hX : X < 4294967296) (hY : Y < 4294967296) : ∃ h', fX16_real h 592 7 2 (Int64.ofNat X) (Int64.ofNat Y) = some (Int64.ofNat (fo2 7 X Y), h') ∧ nG h h' := by
  unfold fX16_real
  simp only [ni_7_0, ni_7_1, ni_7_2, ni_7_3, ni_7_4, ni_7_5, ni_7_6, ni_7_8, ni_7_9, ni_7_10, ni_7_11, ni_7_12, ni_7_13, if_true, if_false, O.1]
  refine ⟨_, ?_, nG_t (nG_2 h (ng2 X) (so2 X) (wh2 X) (pw2 X) (ng2 Y) (so2 Y) (wh2 Y) (pw2 Y)) (nG_I _ (k := 0) (bI (ng2 Y ^^ false)) (.inr rfl))⟩
  rw [show (0 : Int32) = bI false from rfl, mn2 O hX hY false, jr_bs, Bool.xor_false]
  rfl
theorem mR2_8 {h : pm_H} (O : mO h) {X Y : Nat} (hX : X < 4294967296) (hY : Y < 4294967296) : ∃ h', fX16_real h 592 8 2 (Int64.ofNat X) (Int64.ofNat Y) = some (Int64.ofNat (fo2 8 X Y), h') ∧ nG h h' := by
  unfold fX16_real
  simp only [ni_8_0, ni_8_1, ni_8_2, ni_8_3, ni_8_4, ni_8_5, ni_8_6, ni_8_7, ni_8_9, ni_8_10, ni_8_11, ni_8_12, ni_8_13, if_true, if_false, O.1]
  refine ⟨_, ?_, nG_t (nG_2 h (ng2 X) (so2 X) (wh2 X) (pw2 X) (ng2 Y) (so2 Y) (wh2 Y) (pw2 Y)) (nG_I _ (k := 0) (bI (ng2 Y ^^ true)) (.inr rfl))⟩
  rw [show (1 : Int32) = bI true from rfl, mn2 O hX hY true, jr_bs]
  rfl
theorem mR2_9 {h : pm_H} (O : mO h) {X Y : Nat} (hX : X < 4294967296) (hY : Y < 4294967296) : ∃ h', fX16_real h 592 9 2 (Int64.ofNat X) (Int64.ofNat Y) = some (Int64.ofNat (fo2 9 X Y), h') ∧ nG h h' := by
  unfold fX16_real
  simp only [ni_9_0, ni_9_1, ni_9_2, ni_9_3, ni_9_4, ni_9_5, ni_9_6, ni_9_7, ni_9_8, ni_9_10, ni_9_11, ni_9_12, ni_9_13, if_true, if_false, O.1]
  refine ⟨rv (rv h 605 (ng2 X) (so2 X) (wh2 X) (pw2 X)) 606 (ng2 Y) (so2 Y) (wh2 Y) (pw2 Y), ?_, nG_2 h _ _ _ _ _ _ _ _⟩
  rw [mp2 O hX hY, jr_bs]
  rfl
theorem mR2_10 {h : pm_H} (O : mO h) {X Y : Nat} (hX : X < 4294967296) (hY : Y < 4294967296) : ∃ h', fX16_real h 592 10 2 (Int64.ofNat X) (Int64.ofNat Y) = some (Int64.ofNat (fo2 10 X Y), h') ∧ nG h h' := by
  unfold fX16_real
  simp only [ni_10_0, ni_10_1, ni_10_2, ni_10_3, ni_10_4, ni_10_5, ni_10_6, ni_10_7, ni_10_8, ni_10_9, ni_10_11, ni_10_12, ni_10_13, if_true, if_false, O.1]
  refine ⟨rv (rv h 605 (ng2 X) (so2 X) (wh2 X) (pw2 X)) 606 (ng2 Y) (so2 Y) (wh2 Y) (pw2 Y), ?_, nG_2 h _ _ _ _ _ _ _ _⟩
  rw [mq2 O hX hY, jr_bs]
  rfl
theorem mR2_11 {h : pm_H} (O : mO h) {X Y : Nat} (hX : X < 4294967296) (hY : Y < 4294967296) : ∃ h', fX16_real h 592 11 2 (Int64.ofNat X) (Int64.ofNat Y) = some (Int64.ofNat (fo2 11 X Y), h') ∧ nG h h' := by
  unfold fX16_real
  simp only [ni_11_0, ni_11_1, ni_11_2, ni_11_3, ni_11_4, ni_11_5, ni_11_6, ni_11_7, ni_11_8, ni_11_9, ni_11_10, ni_11_12, ni_11_13, if_true, if_false, O.1]
  refine ⟨rv (rv h 605 (ng2 X) (so2 X) (wh2 X) (pw2 X)) 606 (ng2 Y) (so2 Y) (wh2 Y) (pw2 Y), ?_, nG_2 h _ _ _ _ _ _ _ _⟩
  rw [show (1 : Int32) = bI true from rfl, mx2 O hX hY true, jr_bs]
  rfl
theorem mR2_12 {h : pm_H} (O : mO h) {X Y : Nat} (hX : X < 4294967296) (hY : Y < 4294967296) : ∃ h', fX16_real h 592 12 2 (Int64.ofNat X) (Int64.ofNat Y) = some (Int64.ofNat (fo2 12 X Y), h') ∧ nG h h' := by
  unfold fX16_real
  simp only [ni_12_0, ni_12_1, ni_12_2, ni_12_3, ni_12_4, ni_12_5, ni_12_6, ni_12_7, ni_12_8, ni_12_9, ni_12_10, ni_12_11, ni_12_13, if_true, if_false, O.1]
  refine ⟨rv (rv h 605 (ng2 X) (so2 X) (wh2 X) (pw2 X)) 606 (ng2 Y) (so2 Y) (wh2 Y) (pw2 Y), ?_, nG_2 h _ _ _ _ _ _ _ _⟩
  rw [show (0 : Int32) = bI false from rfl, mx2 O hX hY false, jr_bs]
  rfl
theorem mR2_13 {h : pm_H} (O : mO h) {X Y : Nat} (hX : X < 4294967296) (hY : Y < 4294967296) : ∃ h', fX16_real h 592 13 2 (Int64.ofNat X) (Int64.ofNat Y) = some (Int64.ofNat (fo2 13 X Y), h') ∧ nG h h' := by
  unfold fX16_real
  simp only [ni_13_0, ni_13_1, ni_13_2, ni_13_3, ni_13_4, ni_13_5, ni_13_6, ni_13_7, ni_13_8, ni_13_9, ni_13_10, ni_13_11, ni_13_12, if_true, if_false, O.1]
  refine ⟨h, ?_, nG_r h⟩
  rw [jr_let, jr_let, show fX16_signOf 2 = 2147483648 by decide, cs2_m hX, sn2_a hY, sn2_o]
  rfl
theorem so2_n {X : Nat} : (bI (decide (2139095040 < X % 2147483648)) = 0) = (so2 X ≠ 3) := by
  have c := so2_c X
  rw [bI_0, decide_eq_false_iff_not]
  exact propext ⟨fun z => by omega, fun z => by omega⟩
theorem cR2_0 {X Y : Nat} (hX : X < 4294967296) (hY : Y < 4294967296) : fX8_floating 2 0 (Int64.ofNat X) (Int64.ofNat Y) = some (Int64.ofNat (fo2 0 X Y)) := by
  unfold fX8_floating
  simp only [jr_let, show fX8_sign 2 = 2147483648 by decide, ni_0_1, ni_0_2, ni_0_3, ni_0_4, ni_0_5, ni_0_6, ni_0_7, ni_0_8, ni_0_9, ni_0_10, ni_0_11, ni_0_12, ni_0_13, if_true, if_false]
  rw [cs2_m hX]
  rfl
theorem cR2_1 {X Y : Nat} (hX : X < 4294967296) (hY : Y < 4294967296) : fX8_floating 2 1 (Int64.ofNat X) (Int64.ofNat Y) = some (Int64.ofNat (fo2 1 X Y)) := by
  unfold fX8_floating
  simp only [jr_let, show fX8_sign 2 = 2147483648 by decide, ni_1_0, ni_1_2, ni_1_3, ni_1_4, ni_1_5, ni_1_6, ni_1_7, ni_1_8, ni_1_9, ni_1_10, ni_1_11, ni_1_12, ni_1_13, if_true, if_false]
  rw [sx2 hX]
  rfl
theorem cR2_2 {X Y : Nat} (hX : X < 4294967296) (hY : Y < 4294967296) : fX8_floating 2 2 (Int64.ofNat X) (Int64.ofNat Y) = some (Int64.ofNat (fo2 2 X Y)) := by
  unfold fX8_floating
  simp only [jr_let, show fX8_sign 2 = 2147483648 by decide, ni_2_0, ni_2_1, ni_2_3, ni_2_4, ni_2_5, ni_2_6, ni_2_7, ni_2_8, ni_2_9, ni_2_10, ni_2_11, ni_2_12, ni_2_13, if_true, if_false]
  have nn : fX8_none 2 = Int64.ofNat 2143289344 := by decide
  have e : fo2 2 X Y = wo2 0 X := rfl
  rw [cf2_none hX, nn, e]
  by_cases c1 : so2 X = 3
  · rw [if_neg (by rw [so2_n]; simp [c1])]
    unfold wo2; rw [if_pos c1]
  rw [if_pos (by rw [so2_n]; exact c1)]
  rw [if_pos (show (2 : Int32) ≤ 6 by decide)]
  unfold fX8_floating_b78
  simp only [jr_let, ni_2_0, ni_2_1, ni_2_3, ni_2_4, ni_2_5, ni_2_6, ni_2_7, ni_2_8, ni_2_9, ni_2_10, ni_2_11, ni_2_12, ni_2_13, if_true, if_false]
  have w := cw2 (k := 0) hX (by decide) c1
  rw [show Int32.ofInt ((0 + 2 : Nat) : Int) = 2 from rfl] at w
  rw [w]
theorem cR2_3 {X Y : Nat} (hX : X < 4294967296) (hY : Y < 4294967296) : fX8_floating 2 3 (Int64.ofNat X) (Int64.ofNat Y) = some (Int64.ofNat (fo2 3 X Y)) := by
  unfold fX8_floating
  simp only [jr_let, show fX8_sign 2 = 2147483648 by decide, ni_3_0, ni_3_1, ni_3_2, ni_3_4, ni_3_5, ni_3_6, ni_3_7, ni_3_8, ni_3_9, ni_3_10, ni_3_11, ni_3_12, ni_3_13, if_true, if_false]
  have nn : fX8_none 2 = Int64.ofNat 2143289344 := by decide
  have e : fo2 3 X Y = wo2 1 X := rfl
  rw [cf2_none hX, nn, e]
  by_cases c1 : so2 X = 3
  · rw [if_neg (by rw [so2_n]; simp [c1])]
    unfold wo2; rw [if_pos c1]
  rw [if_pos (by rw [so2_n]; exact c1)]
  rw [if_pos (show (3 : Int32) ≤ 6 by decide)]
  unfold fX8_floating_b78
  simp only [jr_let, ni_3_0, ni_3_1, ni_3_2, ni_3_4, ni_3_5, ni_3_6, ni_3_7, ni_3_8, ni_3_9, ni_3_10, ni_3_11, ni_3_12, ni_3_13, if_true, if_false]
  have w := cw2 (k := 1) hX (by decide) c1
  rw [show Int32.ofInt ((1 + 2 : Nat) : Int) = 3 from rfl] at w
  rw [w]
theorem cR2_4 {X Y : Nat} (hX : X < 4294967296) (hY : Y < 4294967296) : fX8_floating 2 4 (Int64.ofNat X) (Int64.ofNat Y) = some (Int64.ofNat (fo2 4 X Y)) := by
  unfold fX8_floating
  simp only [jr_let, show fX8_sign 2 = 2147483648 by decide, ni_4_0, ni_4_1, ni_4_2, ni_4_3, ni_4_5, ni_4_6, ni_4_7, ni_4_8, ni_4_9, ni_4_10, ni_4_11, ni_4_12, ni_4_13, if_true, if_false]
  have nn : fX8_none 2 = Int64.ofNat 2143289344 := by decide
  have e : fo2 4 X Y = wo2 2 X := rfl
  rw [cf2_none hX, nn, e]
  by_cases c1 : so2 X = 3
  · rw [if_neg (by rw [so2_n]; simp [c1])]
    unfold wo2; rw [if_pos c1]
  rw [if_pos (by rw [so2_n]; exact c1)]
  rw [if_pos (show (4 : Int32) ≤ 6 by decide)]
  unfold fX8_floating_b78
  simp only [jr_let, ni_4_0, ni_4_1, ni_4_2, ni_4_3, ni_4_5, ni_4_6, ni_4_7, ni_4_8, ni_4_9, ni_4_10, ni_4_11, ni_4_12, ni_4_13, if_true, if_false]
  have w := cw2 (k := 2) hX (by decide) c1
  rw [show Int32.ofInt ((2 + 2 : Nat) : Int) = 4 from rfl] at w
  rw [w]
theorem cR2_5 {X Y : Nat} (hX : X < 4294967296) (hY : Y < 4294967296) : fX8_floating 2 5 (Int64.ofNat X) (Int64.ofNat Y) = some (Int64.ofNat (fo2 5 X Y)) := by
  unfold fX8_floating
  simp only [jr_let, show fX8_sign 2 = 2147483648 by decide, ni_5_0, ni_5_1, ni_5_2, ni_5_3, ni_5_4, ni_5_6, ni_5_7, ni_5_8, ni_5_9, ni_5_10, ni_5_11, ni_5_12, ni_5_13, if_true, if_false]
  have nn : fX8_none 2 = Int64.ofNat 2143289344 := by decide
  have e : fo2 5 X Y = wo2 3 X := rfl
  rw [cf2_none hX, nn, e]
  by_cases c1 : so2 X = 3
  · rw [if_neg (by rw [so2_n]; simp [c1])]
    unfold wo2; rw [if_pos c1]
  rw [if_pos (by rw [so2_n]; exact c1)]
  rw [if_pos (show (5 : Int32) ≤ 6 by decide)]
  unfold fX8_floating_b78
  simp only [jr_let, ni_5_0, ni_5_1, ni_5_2, ni_5_3, ni_5_4, ni_5_6, ni_5_7, ni_5_8, ni_5_9, ni_5_10, ni_5_11, ni_5_12, ni_5_13, if_true, if_false]
  have w := cw2 (k := 3) hX (by decide) c1
  rw [show Int32.ofInt ((3 + 2 : Nat) : Int) = 5 from rfl] at w
  rw [w]
theorem cR2_6 {X Y : Nat} (hX : X < 4294967296) (hY : Y < 4294967296) : fX8_floating 2 6 (Int64.ofNat X) (Int64.ofNat Y) = some (Int64.ofNat (fo2 6 X Y)) := by
  unfold fX8_floating
  simp only [jr_let, show fX8_sign 2 = 2147483648 by decide, ni_6_0, ni_6_1, ni_6_2, ni_6_3, ni_6_4, ni_6_5, ni_6_7, ni_6_8, ni_6_9, ni_6_10, ni_6_11, ni_6_12, ni_6_13, if_true, if_false]
  have nn : fX8_none 2 = Int64.ofNat 2143289344 := by decide
  have e : fo2 6 X Y = ro2 X := rfl
  rw [cf2_none hX, nn, e]
  by_cases c1 : so2 X = 3
  · rw [if_neg (by rw [so2_n]; simp [c1])]
    have := so2_c X; unfold ro2; rw [if_neg (show ¬ so2 X = 1 by omega), if_pos (show so2 X = 3 ∨ ng2 X = true from .inl c1)]
  rw [if_pos (by rw [so2_n]; exact c1)]
  rw [if_pos (show (6 : Int32) ≤ 6 by decide)]
  unfold fX8_floating_b78
  simp only [jr_let, ni_6_0, ni_6_1, ni_6_2, ni_6_3, ni_6_4, ni_6_5, ni_6_7, ni_6_8, ni_6_9, ni_6_10, ni_6_11, ni_6_12, ni_6_13, if_true, if_false]
  rw [ct2 hX c1, jr_bs]
theorem cR2_7 {X Y : Nat} (hX : X < 4294967296) (hY : Y < 4294967296) : fX8_floating 2 7 (Int64.ofNat X) (Int64.ofNat Y) = some (Int64.ofNat (fo2 7 X Y)) := by
  unfold fX8_floating
  simp only [jr_let, show fX8_sign 2 = 2147483648 by decide, ni_7_0, ni_7_1, ni_7_2, ni_7_3, ni_7_4, ni_7_5, ni_7_6, ni_7_8, ni_7_9, ni_7_10, ni_7_11, ni_7_12, ni_7_13, if_true, if_false]
  have nn : fX8_none 2 = Int64.ofNat 2143289344 := by decide
  have e : fo2 7 X Y = su2 X Y (ng2 Y) := rfl
  rw [cf2_none hX, nn, e]
  by_cases c1 : so2 X = 3
  · rw [if_neg (by rw [so2_n]; simp [c1])]
    unfold su2; rw [if_pos (show so2 X = 3 ∨ so2 Y = 3 from .inl c1)]
  rw [if_pos (by rw [so2_n]; exact c1)]
  rw [if_neg (show ¬ (7 : Int32) ≤ 6 by decide), cf2_none hY]
  by_cases c2 : so2 Y = 3
  · rw [if_neg (by rw [so2_n]; simp [c2])]
    unfold su2; rw [if_pos (show so2 X = 3 ∨ so2 Y = 3 from .inr c2)]
  rw [if_pos (by rw [so2_n]; exact c2)]
  unfold fX8_floating_b78
  simp only [jr_let, ni_7_0, ni_7_1, ni_7_2, ni_7_3, ni_7_4, ni_7_5, ni_7_6, ni_7_8, ni_7_9, ni_7_10, ni_7_11, ni_7_12, ni_7_13, if_true, if_false]
  rw [ca2 hX hY c1 c2]
theorem cR2_8 {X Y : Nat} (hX : X < 4294967296) (hY : Y < 4294967296) : fX8_floating 2 8 (Int64.ofNat X) (Int64.ofNat Y) = some (Int64.ofNat (fo2 8 X Y)) := by
  unfold fX8_floating
  simp only [jr_let, show fX8_sign 2 = 2147483648 by decide, ni_8_0, ni_8_1, ni_8_2, ni_8_3, ni_8_4, ni_8_5, ni_8_6, ni_8_7, ni_8_9, ni_8_10, ni_8_11, ni_8_12, ni_8_13, if_true, if_false]
  have nn : fX8_none 2 = Int64.ofNat 2143289344 := by decide
  have e : fo2 8 X Y = su2 X Y (ng2 Y ^^ true) := rfl
  rw [cf2_none hX, nn, e]
  by_cases c1 : so2 X = 3
  · rw [if_neg (by rw [so2_n]; simp [c1])]
    unfold su2; rw [if_pos (show so2 X = 3 ∨ so2 Y = 3 from .inl c1)]
  rw [if_pos (by rw [so2_n]; exact c1)]
  rw [if_neg (show ¬ (8 : Int32) ≤ 6 by decide), cf2_none hY]
  by_cases c2 : so2 Y = 3
  · rw [if_neg (by rw [so2_n]; simp [c2])]
    unfold su2; rw [if_pos (show so2 X = 3 ∨ so2 Y = 3 from .inr c2)]
  rw [if_pos (by rw [so2_n]; exact c2)]
  unfold fX8_floating_b78
  simp only [jr_let, ni_8_0, ni_8_1, ni_8_2, ni_8_3, ni_8_4, ni_8_5, ni_8_6, ni_8_7, ni_8_9, ni_8_10, ni_8_11, ni_8_12, ni_8_13, if_true, if_false]
  have f := fp2_f hY
  have n : so2 (fp2 Y) ≠ 3 := by unfold so2; rw [f.2.1]; unfold so2 at c2; exact c2
  rw [sx2 hY, ca2 hX f.1 c1 n, f.2.2, su2_f hY]
theorem cR2_9 {X Y : Nat} (hX : X < 4294967296) (hY : Y < 4294967296) : fX8_floating 2 9 (Int64.ofNat X) (Int64.ofNat Y) = some (Int64.ofNat (fo2 9 X Y)) := by
  unfold fX8_floating
  simp only [jr_let, show fX8_sign 2 = 2147483648 by decide, ni_9_0, ni_9_1, ni_9_2, ni_9_3, ni_9_4, ni_9_5, ni_9_6, ni_9_7, ni_9_8, ni_9_10, ni_9_11, ni_9_12, ni_9_13, if_true, if_false]
  have nn : fX8_none 2 = Int64.ofNat 2143289344 := by decide
  have e : fo2 9 X Y = ml2 X Y := rfl
  rw [cf2_none hX, nn, e]
  by_cases c1 : so2 X = 3
  · rw [if_neg (by rw [so2_n]; simp [c1])]
    unfold ml2; rw [if_pos (show so2 X = 3 ∨ so2 Y = 3 ∨ so2 X + so2 Y = 3 from .inl c1)]
  rw [if_pos (by rw [so2_n]; exact c1)]
  rw [if_neg (show ¬ (9 : Int32) ≤ 6 by decide), cf2_none hY]
  by_cases c2 : so2 Y = 3
  · rw [if_neg (by rw [so2_n]; simp [c2])]
    unfold ml2; rw [if_pos (show so2 X = 3 ∨ so2 Y = 3 ∨ so2 X + so2 Y = 3 from .inr (.inl c2))]
  rw [if_pos (by rw [so2_n]; exact c2)]
  unfold fX8_floating_b78
  simp only [jr_let, ni_9_0, ni_9_1, ni_9_2, ni_9_3, ni_9_4, ni_9_5, ni_9_6, ni_9_7, ni_9_8, ni_9_10, ni_9_11, ni_9_12, ni_9_13, if_true, if_false]
  rw [cm2 hX hY c1 c2]
theorem cR2_10 {X Y : Nat} (hX : X < 4294967296) (hY : Y < 4294967296) : fX8_floating 2 10 (Int64.ofNat X) (Int64.ofNat Y) = some (Int64.ofNat (fo2 10 X Y)) := by
  unfold fX8_floating
  simp only [jr_let, show fX8_sign 2 = 2147483648 by decide, ni_10_0, ni_10_1, ni_10_2, ni_10_3, ni_10_4, ni_10_5, ni_10_6, ni_10_7, ni_10_8, ni_10_9, ni_10_11, ni_10_12, ni_10_13, if_true, if_false]
  have nn : fX8_none 2 = Int64.ofNat 2143289344 := by decide
  have e : fo2 10 X Y = dv2 X Y := rfl
  rw [cf2_none hX, nn, e]
  by_cases c1 : so2 X = 3
  · rw [if_neg (by rw [so2_n]; simp [c1])]
    unfold dv2; rw [if_pos (show so2 X = 3 ∨ so2 Y = 3 ∨ (so2 X = so2 Y ∧ so2 X ≠ 0) from .inl c1)]
  rw [if_pos (by rw [so2_n]; exact c1)]
  rw [if_neg (show ¬ (10 : Int32) ≤ 6 by decide), cf2_none hY]
  by_cases c2 : so2 Y = 3
  · rw [if_neg (by rw [so2_n]; simp [c2])]
    unfold dv2; rw [if_pos (show so2 X = 3 ∨ so2 Y = 3 ∨ (so2 X = so2 Y ∧ so2 X ≠ 0) from .inr (.inl c2))]
  rw [if_pos (by rw [so2_n]; exact c2)]
  unfold fX8_floating_b78
  simp only [jr_let, ni_10_0, ni_10_1, ni_10_2, ni_10_3, ni_10_4, ni_10_5, ni_10_6, ni_10_7, ni_10_8, ni_10_9, ni_10_11, ni_10_12, ni_10_13, if_true, if_false]
  rw [cd2 hX hY c1 c2, jr_bs]
theorem cR2_11 {X Y : Nat} (hX : X < 4294967296) (hY : Y < 4294967296) : fX8_floating 2 11 (Int64.ofNat X) (Int64.ofNat Y) = some (Int64.ofNat (fo2 11 X Y)) := by
  unfold fX8_floating
  simp only [jr_let, show fX8_sign 2 = 2147483648 by decide, ni_11_0, ni_11_1, ni_11_2, ni_11_3, ni_11_4, ni_11_5, ni_11_6, ni_11_7, ni_11_8, ni_11_9, ni_11_10, ni_11_12, ni_11_13, if_true, if_false]
  have nn : fX8_none 2 = Int64.ofNat 2143289344 := by decide
  have e : fo2 11 X Y = mi2 true X Y := rfl
  rw [cf2_none hX, nn, e]
  by_cases c1 : so2 X = 3
  · rw [if_neg (by rw [so2_n]; simp [c1])]
    unfold mi2; rw [if_pos (show so2 X = 3 ∨ so2 Y = 3 from .inl c1)]
  rw [if_pos (by rw [so2_n]; exact c1)]
  rw [if_neg (show ¬ (11 : Int32) ≤ 6 by decide), cf2_none hY]
  by_cases c2 : so2 Y = 3
  · rw [if_neg (by rw [so2_n]; simp [c2])]
    unfold mi2; rw [if_pos (show so2 X = 3 ∨ so2 Y = 3 from .inr c2)]
  rw [if_pos (by rw [so2_n]; exact c2)]
  unfold fX8_floating_b78
  simp only [jr_let, ni_11_0, ni_11_1, ni_11_2, ni_11_3, ni_11_4, ni_11_5, ni_11_6, ni_11_7, ni_11_8, ni_11_9, ni_11_10, ni_11_12, ni_11_13, if_true, if_false]
  simp only [jl_lt, cO2 hX, cO2 hY]
  unfold mi2
  rw [if_neg (show ¬ (so2 X = 3 ∨ so2 Y = 3) by omega), if_pos b_tt]
  by_cases d : co2 X ≤ co2 Y
  · rw [if_neg (by omega), if_pos d]
  · rw [if_pos (by omega), if_neg d]
theorem cR2_12 {X Y : Nat} (hX : X < 4294967296) (hY : Y < 4294967296) : fX8_floating 2 12 (Int64.ofNat X) (Int64.ofNat Y) = some (Int64.ofNat (fo2 12 X Y)) := by
  unfold fX8_floating
  simp only [jr_let, show fX8_sign 2 = 2147483648 by decide, ni_12_0, ni_12_1, ni_12_2, ni_12_3, ni_12_4, ni_12_5, ni_12_6, ni_12_7, ni_12_8, ni_12_9, ni_12_10, ni_12_11, ni_12_13, if_true, if_false]
  have nn : fX8_none 2 = Int64.ofNat 2143289344 := by decide
  have e : fo2 12 X Y = mi2 false X Y := rfl
  rw [cf2_none hX, nn, e]
  by_cases c1 : so2 X = 3
  · rw [if_neg (by rw [so2_n]; simp [c1])]
    unfold mi2; rw [if_pos (show so2 X = 3 ∨ so2 Y = 3 from .inl c1)]
  rw [if_pos (by rw [so2_n]; exact c1)]
  rw [if_neg (show ¬ (12 : Int32) ≤ 6 by decide), cf2_none hY]
  by_cases c2 : so2 Y = 3
  · rw [if_neg (by rw [so2_n]; simp [c2])]
    unfold mi2; rw [if_pos (show so2 X = 3 ∨ so2 Y = 3 from .inr c2)]
  rw [if_pos (by rw [so2_n]; exact c2)]
  unfold fX8_floating_b78
  simp only [jr_let, ni_12_0, ni_12_1, ni_12_2, ni_12_3, ni_12_4, ni_12_5, ni_12_6, ni_12_7, ni_12_8, ni_12_9, ni_12_10, ni_12_11, ni_12_13, if_true, if_false]
  simp only [jl_lt, cO2 hX, cO2 hY]
  unfold mi2
  rw [if_neg (show ¬ (so2 X = 3 ∨ so2 Y = 3) by omega), if_neg b_ft]
  by_cases d : co2 Y ≤ co2 X
  · rw [if_neg (by omega), if_pos d]
  · rw [if_pos (by omega), if_neg d]
theorem cR2_13 {X Y : Nat} (hX : X < 4294967296) (hY : Y < 4294967296) : fX8_floating 2 13 (Int64.ofNat X) (Int64.ofNat Y) = some (Int64.ofNat (fo2 13 X Y)) := by
  unfold fX8_floating
  simp only [jr_let, show fX8_sign 2 = 2147483648 by decide, ni_13_0, ni_13_1, ni_13_2, ni_13_3, ni_13_4, ni_13_5, ni_13_6, ni_13_7, ni_13_8, ni_13_9, ni_13_10, ni_13_11, ni_13_12, if_true, if_false]
  rw [cs2_m hX, sn2_a hY, sn2_o]
  rfl
theorem mR3_0 {h : pm_H} (O : mO h) {X Y : Nat} (hX : X < 18446744073709551616) (hY : Y < 18446744073709551616) : ∃ h', fX16_real h 592 0 3 (Int64.ofNat X) (Int64.ofNat Y) = some (Int64.ofNat (fo3 0 X Y), h') ∧ nG h h' := by
  unfold fX16_real
  simp only [ni_0_1, ni_0_2, ni_0_3, ni_0_4, ni_0_5, ni_0_6, ni_0_7, ni_0_8, ni_0_9, ni_0_10, ni_0_11, ni_0_12, ni_0_13, if_true, if_false, O.1]
  refine ⟨h, ?_, nG_r h⟩
  rw [jr_let, show fX16_signOf 3 = (-9223372036854775808) by decide, cs3_m hX]
  rfl
theorem mR3_1 {h : pm_H} (O : mO h) {X Y : Nat} (hX : X < 18446744073709551616) (hY : Y < 18446744073709551616) : ∃ h', fX16_real h 592 1 3 (Int64.ofNat X) (Int64.ofNat Y) = some (Int64.ofNat (fo3 1 X Y), h') ∧ nG h h' := by
  unfold fX16_real
  simp only [ni_1_0, ni_1_2, ni_1_3, ni_1_4, ni_1_5, ni_1_6, ni_1_7, ni_1_8, ni_1_9, ni_1_10, ni_1_11, ni_1_12, ni_1_13, if_true, if_false, O.1]
  refine ⟨h, ?_, nG_r h⟩
  rw [jr_let, show fX16_signOf 3 = (-9223372036854775808) by decide, sx3 hX]
  rfl
theorem mR3_2 {h : pm_H} (O : mO h) {X Y : Nat} (hX : X < 18446744073709551616) (hY : Y < 18446744073709551616) : ∃ h', fX16_real h 592 2 3 (Int64.ofNat X) (Int64.ofNat Y) = some (Int64.ofNat (fo3 2 X Y), h') ∧ nG h h' := by
  unfold fX16_real
  simp only [ni_2_0, ni_2_1, ni_2_3, ni_2_4, ni_2_5, ni_2_6, ni_2_7, ni_2_8, ni_2_9, ni_2_10, ni_2_11, ni_2_12, ni_2_13, if_true, if_false, O.1]
  refine ⟨rv h 605 (ng3 X) (so3 X) (wh3 X) (pw3 X), ?_, nG_rv h (.inl rfl) _ _ _ _⟩
  rw [show (2 : Int32) - 2 = Int32.ofInt ((0 : Nat) : Int) from rfl, mo3 O hX (by decide), jr_bs]
  rfl
theorem mR3_3 {h : pm_H} (O : mO h) {X Y : Nat} (hX : X < 18446744073709551616) (hY : Y < 18446744073709551616) : ∃ h', fX16_real h 592 3 3 (Int64.ofNat X) (Int64.ofNat Y) = some (Int64.ofNat (fo3 3 X Y), h') ∧ nG h h' := by
  unfold fX16_real
  simp only [ni_3_0, ni_3_1, ni_3_2, ni_3_4, ni_3_5, ni_3_6, ni_3_7, ni_3_8, ni_3_9, ni_3_10, ni_3_11, ni_3_12, ni_3_13, if_true, if_false, O.1]
  refine ⟨rv h 605 (ng3 X) (so3 X) (wh3 X) (pw3 X), ?_, nG_rv h (.inl rfl) _ _ _ _⟩
  rw [show (3 : Int32) - 2 = Int32.ofInt ((1 : Nat) : Int) from rfl, mo3 O hX (by decide), jr_bs]
  rfl
theorem mR3_4 {h : pm_H} (O : mO h) {X Y : Nat} (hX : X < 18446744073709551616) (hY : Y < 18446744073709551616) : ∃ h', fX16_real h 592 4 3 (Int64.ofNat X) (Int64.ofNat Y) = some (Int64.ofNat (fo3 4 X Y), h') ∧ nG h h' := by
  unfold fX16_real
  simp only [ni_4_0, ni_4_1, ni_4_2, ni_4_3, ni_4_5, ni_4_6, ni_4_7, ni_4_8, ni_4_9, ni_4_10, ni_4_11, ni_4_12, ni_4_13, if_true, if_false, O.1]
  refine ⟨rv h 605 (ng3 X) (so3 X) (wh3 X) (pw3 X), ?_, nG_rv h (.inl rfl) _ _ _ _⟩
  rw [show (4 : Int32) - 2 = Int32.ofInt ((2 : Nat) : Int) from rfl, mo3 O hX (by decide), jr_bs]
  rfl
theorem mR3_5 {h : pm_H} (O : mO h) {X Y : Nat} (hX : X < 18446744073709551616) (hY : Y < 18446744073709551616) : ∃ h', fX16_real h 592 5 3 (Int64.ofNat X) (Int64.ofNat Y) = some (Int64.ofNat (fo3 5 X Y), h') ∧ nG h h' := by
  unfold fX16_real
  simp only [ni_5_0, ni_5_1, ni_5_2, ni_5_3, ni_5_4, ni_5_6, ni_5_7, ni_5_8, ni_5_9, ni_5_10, ni_5_11, ni_5_12, ni_5_13, if_true, if_false, O.1]
  refine ⟨rv h 605 (ng3 X) (so3 X) (wh3 X) (pw3 X), ?_, nG_rv h (.inl rfl) _ _ _ _⟩
  rw [show (5 : Int32) - 2 = Int32.ofInt ((3 : Nat) : Int) from rfl, mo3 O hX (by decide), jr_bs]
  rfl
theorem mR3_6 {h : pm_H} (O : mO h) {X Y : Nat} (hX : X < 18446744073709551616) (hY : Y < 18446744073709551616) : ∃ h', fX16_real h 592 6 3 (Int64.ofNat X) (Int64.ofNat Y) = some (Int64.ofNat (fo3 6 X Y), h') ∧ nG h h' := by
  unfold fX16_real
  simp only [ni_6_0, ni_6_1, ni_6_2, ni_6_3, ni_6_4, ni_6_5, ni_6_7, ni_6_8, ni_6_9, ni_6_10, ni_6_11, ni_6_12, ni_6_13, if_true, if_false, O.1]
  refine ⟨rv h 605 (ng3 X) (so3 X) (wh3 X) (pw3 X), ?_, nG_rv h (.inl rfl) _ _ _ _⟩
  rw [mt3 O hX, jr_bs]
  rfl
theorem mR3_7 {h : pm_H} (O : mO h) {X Y : Nat} (hX : X < 18446744073709551616) (hY : Y < 18446744073709551616) : ∃ h', fX16_real h 592 7 3 (Int64.ofNat X) (Int64.ofNat Y) = some (Int64.ofNat (fo3 7 X Y), h') ∧ nG h h' := by
  unfold fX16_real
  simp only [ni_7_0, ni_7_1, ni_7_2, ni_7_3, ni_7_4, ni_7_5, ni_7_6, ni_7_8, ni_7_9, ni_7_10, ni_7_11, ni_7_12, ni_7_13, if_true, if_false, O.1]
  refine ⟨_, ?_, nG_t (nG_2 h (ng3 X) (so3 X) (wh3 X) (pw3 X) (ng3 Y) (so3 Y) (wh3 Y) (pw3 Y)) (nG_I _ (k := 0) (bI (ng3 Y ^^ false)) (.inr rfl))⟩
  rw [show (0 : Int32) = bI false from rfl, mn3 O hX hY false, jr_bs, Bool.xor_false]
  rfl
theorem mR3_8 {h : pm_H} (O : mO h) {X Y : Nat} (hX : X < 18446744073709551616) (hY : Y < 18446744073709551616) : ∃ h', fX16_real h 592 8 3 (Int64.ofNat X) (Int64.ofNat Y) = some (Int64.ofNat (fo3 8 X Y), h') ∧ nG h h' := by
  unfold fX16_real
  simp only [ni_8_0, ni_8_1, ni_8_2, ni_8_3, ni_8_4, ni_8_5, ni_8_6, ni_8_7, ni_8_9, ni_8_10, ni_8_11, ni_8_12, ni_8_13, if_true, if_false, O.1]
  refine ⟨_, ?_, nG_t (nG_2 h (ng3 X) (so3 X) (wh3 X) (pw3 X) (ng3 Y) (so3 Y) (wh3 Y) (pw3 Y)) (nG_I _ (k := 0) (bI (ng3 Y ^^ true)) (.inr rfl))⟩
  rw [show (1 : Int32) = bI true from rfl, mn3 O hX hY true, jr_bs]
  rfl
theorem mR3_9 {h : pm_H} (O : mO h) {X Y : Nat} (hX : X < 18446744073709551616) (hY : Y < 18446744073709551616) : ∃ h', fX16_real h 592 9 3 (Int64.ofNat X) (Int64.ofNat Y) = some (Int64.ofNat (fo3 9 X Y), h') ∧ nG h h' := by
  unfold fX16_real
  simp only [ni_9_0, ni_9_1, ni_9_2, ni_9_3, ni_9_4, ni_9_5, ni_9_6, ni_9_7, ni_9_8, ni_9_10, ni_9_11, ni_9_12, ni_9_13, if_true, if_false, O.1]
  refine ⟨rv (rv h 605 (ng3 X) (so3 X) (wh3 X) (pw3 X)) 606 (ng3 Y) (so3 Y) (wh3 Y) (pw3 Y), ?_, nG_2 h _ _ _ _ _ _ _ _⟩
  rw [mp3 O hX hY, jr_bs]
  rfl
theorem mR3_10 {h : pm_H} (O : mO h) {X Y : Nat} (hX : X < 18446744073709551616) (hY : Y < 18446744073709551616) : ∃ h', fX16_real h 592 10 3 (Int64.ofNat X) (Int64.ofNat Y) = some (Int64.ofNat (fo3 10 X Y), h') ∧ nG h h' := by
  unfold fX16_real
  simp only [ni_10_0, ni_10_1, ni_10_2, ni_10_3, ni_10_4, ni_10_5, ni_10_6, ni_10_7, ni_10_8, ni_10_9, ni_10_11, ni_10_12, ni_10_13, if_true, if_false, O.1]
  refine ⟨rv (rv h 605 (ng3 X) (so3 X) (wh3 X) (pw3 X)) 606 (ng3 Y) (so3 Y) (wh3 Y) (pw3 Y), ?_, nG_2 h _ _ _ _ _ _ _ _⟩
  rw [mq3 O hX hY, jr_bs]
  rfl
theorem mR3_11 {h : pm_H} (O : mO h) {X Y : Nat} (hX : X < 18446744073709551616) (hY : Y < 18446744073709551616) : ∃ h', fX16_real h 592 11 3 (Int64.ofNat X) (Int64.ofNat Y) = some (Int64.ofNat (fo3 11 X Y), h') ∧ nG h h' := by
  unfold fX16_real
  simp only [ni_11_0, ni_11_1, ni_11_2, ni_11_3, ni_11_4, ni_11_5, ni_11_6, ni_11_7, ni_11_8, ni_11_9, ni_11_10, ni_11_12, ni_11_13, if_true, if_false, O.1]
  refine ⟨rv (rv h 605 (ng3 X) (so3 X) (wh3 X) (pw3 X)) 606 (ng3 Y) (so3 Y) (wh3 Y) (pw3 Y), ?_, nG_2 h _ _ _ _ _ _ _ _⟩
  rw [show (1 : Int32) = bI true from rfl, mx3 O hX hY true, jr_bs]
  rfl
theorem mR3_12 {h : pm_H} (O : mO h) {X Y : Nat} (hX : X < 18446744073709551616) (hY : Y < 18446744073709551616) : ∃ h', fX16_real h 592 12 3 (Int64.ofNat X) (Int64.ofNat Y) = some (Int64.ofNat (fo3 12 X Y), h') ∧ nG h h' := by
  unfold fX16_real
  simp only [ni_12_0, ni_12_1, ni_12_2, ni_12_3, ni_12_4, ni_12_5, ni_12_6, ni_12_7, ni_12_8, ni_12_9, ni_12_10, ni_12_11, ni_12_13, if_true, if_false, O.1]
  refine ⟨rv (rv h 605 (ng3 X) (so3 X) (wh3 X) (pw3 X)) 606 (ng3 Y) (so3 Y) (wh3 Y) (pw3 Y), ?_, nG_2 h _ _ _ _ _ _ _ _⟩
  rw [show (0 : Int32) = bI false from rfl, mx3 O hX hY false, jr_bs]
  rfl
theorem mR3_13 {h : pm_H} (O : mO h) {X Y : Nat} (hX : X < 18446744073709551616) (hY : Y < 18446744073709551616) : ∃ h', fX16_real h 592 13 3 (Int64.ofNat X) (Int64.ofNat Y) = some (Int64.ofNat (fo3 13 X Y), h') ∧ nG h h' := by
  unfold fX16_real
  simp only [ni_13_0, ni_13_1, ni_13_2, ni_13_3, ni_13_4, ni_13_5, ni_13_6, ni_13_7, ni_13_8, ni_13_9, ni_13_10, ni_13_11, ni_13_12, if_true, if_false, O.1]
  refine ⟨h, ?_, nG_r h⟩
  rw [jr_let, jr_let, show fX16_signOf 3 = (-9223372036854775808) by decide, cs3_m hX, sn3_a hY, sn3_o]
  rfl
theorem so3_n {X : Nat} : (bI (decide (9218868437227405312 < X % 9223372036854775808)) = 0) = (so3 X ≠ 3) := by
  have c := so3_c X
  rw [bI_0, decide_eq_false_iff_not]
  exact propext ⟨fun z => by omega, fun z => by omega⟩
theorem cR3_0 {X Y : Nat} (hX : X < 18446744073709551616) (hY : Y < 18446744073709551616) : fX8_floating 3 0 (Int64.ofNat X) (Int64.ofNat Y) = some (Int64.ofNat (fo3 0 X Y)) := by
  unfold fX8_floating
  simp only [jr_let, show fX8_sign 3 = (-9223372036854775808) by decide, ni_0_1, ni_0_2, ni_0_3, ni_0_4, ni_0_5, ni_0_6, ni_0_7, ni_0_8, ni_0_9, ni_0_10, ni_0_11, ni_0_12, ni_0_13, if_true, if_false]
  rw [cs3_m hX]
  rfl
theorem cR3_1 {X Y : Nat} (hX : X < 18446744073709551616) (hY : Y < 18446744073709551616) : fX8_floating 3 1 (Int64.ofNat X) (Int64.ofNat Y) = some (Int64.ofNat (fo3 1 X Y)) := by
  unfold fX8_floating
  simp only [jr_let, show fX8_sign 3 = (-9223372036854775808) by decide, ni_1_0, ni_1_2, ni_1_3, ni_1_4, ni_1_5, ni_1_6, ni_1_7, ni_1_8, ni_1_9, ni_1_10, ni_1_11, ni_1_12, ni_1_13, if_true, if_false]
  rw [sx3 hX]
  rfl
theorem cR3_2 {X Y : Nat} (hX : X < 18446744073709551616) (hY : Y < 18446744073709551616) : fX8_floating 3 2 (Int64.ofNat X) (Int64.ofNat Y) = some (Int64.ofNat (fo3 2 X Y)) := by
  unfold fX8_floating
  simp only [jr_let, show fX8_sign 3 = (-9223372036854775808) by decide, ni_2_0, ni_2_1, ni_2_3, ni_2_4, ni_2_5, ni_2_6, ni_2_7, ni_2_8, ni_2_9, ni_2_10, ni_2_11, ni_2_12, ni_2_13, if_true, if_false]
  have nn : fX8_none 3 = Int64.ofNat 9221120237041090560 := by decide
  have e : fo3 2 X Y = wo3 0 X := rfl
  rw [cf3_none hX, nn, e]
  by_cases c1 : so3 X = 3
  · rw [if_neg (by rw [so3_n]; simp [c1])]
    unfold wo3; rw [if_pos c1]
  rw [if_pos (by rw [so3_n]; exact c1)]
  rw [if_pos (show (2 : Int32) ≤ 6 by decide)]
  unfold fX8_floating_b78
  simp only [jr_let, ni_2_0, ni_2_1, ni_2_3, ni_2_4, ni_2_5, ni_2_6, ni_2_7, ni_2_8, ni_2_9, ni_2_10, ni_2_11, ni_2_12, ni_2_13, if_true, if_false]
  have w := cw3 (k := 0) hX (by decide) c1
  rw [show Int32.ofInt ((0 + 2 : Nat) : Int) = 2 from rfl] at w
  rw [w]
theorem cR3_3 {X Y : Nat} (hX : X < 18446744073709551616) (hY : Y < 18446744073709551616) : fX8_floating 3 3 (Int64.ofNat X) (Int64.ofNat Y) = some (Int64.ofNat (fo3 3 X Y)) := by
  unfold fX8_floating
  simp only [jr_let, show fX8_sign 3 = (-9223372036854775808) by decide, ni_3_0, ni_3_1, ni_3_2, ni_3_4, ni_3_5, ni_3_6, ni_3_7, ni_3_8, ni_3_9, ni_3_10, ni_3_11, ni_3_12, ni_3_13, if_true, if_false]
  have nn : fX8_none 3 = Int64.ofNat 9221120237041090560 := by decide
  have e : fo3 3 X Y = wo3 1 X := rfl
  rw [cf3_none hX, nn, e]
  by_cases c1 : so3 X = 3
  · rw [if_neg (by rw [so3_n]; simp [c1])]
    unfold wo3; rw [if_pos c1]
  rw [if_pos (by rw [so3_n]; exact c1)]
  rw [if_pos (show (3 : Int32) ≤ 6 by decide)]
  unfold fX8_floating_b78
  simp only [jr_let, ni_3_0, ni_3_1, ni_3_2, ni_3_4, ni_3_5, ni_3_6, ni_3_7, ni_3_8, ni_3_9, ni_3_10, ni_3_11, ni_3_12, ni_3_13, if_true, if_false]
  have w := cw3 (k := 1) hX (by decide) c1
  rw [show Int32.ofInt ((1 + 2 : Nat) : Int) = 3 from rfl] at w
  rw [w]
theorem cR3_4 {X Y : Nat} (hX : X < 18446744073709551616) (hY : Y < 18446744073709551616) : fX8_floating 3 4 (Int64.ofNat X) (Int64.ofNat Y) = some (Int64.ofNat (fo3 4 X Y)) := by
  unfold fX8_floating
  simp only [jr_let, show fX8_sign 3 = (-9223372036854775808) by decide, ni_4_0, ni_4_1, ni_4_2, ni_4_3, ni_4_5, ni_4_6, ni_4_7, ni_4_8, ni_4_9, ni_4_10, ni_4_11, ni_4_12, ni_4_13, if_true, if_false]
  have nn : fX8_none 3 = Int64.ofNat 9221120237041090560 := by decide
  have e : fo3 4 X Y = wo3 2 X := rfl
  rw [cf3_none hX, nn, e]
  by_cases c1 : so3 X = 3
  · rw [if_neg (by rw [so3_n]; simp [c1])]
    unfold wo3; rw [if_pos c1]
  rw [if_pos (by rw [so3_n]; exact c1)]
  rw [if_pos (show (4 : Int32) ≤ 6 by decide)]
  unfold fX8_floating_b78
  simp only [jr_let, ni_4_0, ni_4_1, ni_4_2, ni_4_3, ni_4_5, ni_4_6, ni_4_7, ni_4_8, ni_4_9, ni_4_10, ni_4_11, ni_4_12, ni_4_13, if_true, if_false]
  have w := cw3 (k := 2) hX (by decide) c1
  rw [show Int32.ofInt ((2 + 2 : Nat) : Int) = 4 from rfl] at w
  rw [w]
theorem cR3_5 {X Y : Nat} (hX : X < 18446744073709551616) (hY : Y < 18446744073709551616) : fX8_floating 3 5 (Int64.ofNat X) (Int64.ofNat Y) = some (Int64.ofNat (fo3 5 X Y)) := by
  unfold fX8_floating
  simp only [jr_let, show fX8_sign 3 = (-9223372036854775808) by decide, ni_5_0, ni_5_1, ni_5_2, ni_5_3, ni_5_4, ni_5_6, ni_5_7, ni_5_8, ni_5_9, ni_5_10, ni_5_11, ni_5_12, ni_5_13, if_true, if_false]
  have nn : fX8_none 3 = Int64.ofNat 9221120237041090560 := by decide
  have e : fo3 5 X Y = wo3 3 X := rfl
  rw [cf3_none hX, nn, e]
  by_cases c1 : so3 X = 3
  · rw [if_neg (by rw [so3_n]; simp [c1])]
    unfold wo3; rw [if_pos c1]
  rw [if_pos (by rw [so3_n]; exact c1)]
  rw [if_pos (show (5 : Int32) ≤ 6 by decide)]
  unfold fX8_floating_b78
  simp only [jr_let, ni_5_0, ni_5_1, ni_5_2, ni_5_3, ni_5_4, ni_5_6, ni_5_7, ni_5_8, ni_5_9, ni_5_10, ni_5_11, ni_5_12, ni_5_13, if_true, if_false]
  have w := cw3 (k := 3) hX (by decide) c1
  rw [show Int32.ofInt ((3 + 2 : Nat) : Int) = 5 from rfl] at w
  rw [w]
theorem cR3_6 {X Y : Nat} (hX : X < 18446744073709551616) (hY : Y < 18446744073709551616) : fX8_floating 3 6 (Int64.ofNat X) (Int64.ofNat Y) = some (Int64.ofNat (fo3 6 X Y)) := by
  unfold fX8_floating
  simp only [jr_let, show fX8_sign 3 = (-9223372036854775808) by decide, ni_6_0, ni_6_1, ni_6_2, ni_6_3, ni_6_4, ni_6_5, ni_6_7, ni_6_8, ni_6_9, ni_6_10, ni_6_11, ni_6_12, ni_6_13, if_true, if_false]
  have nn : fX8_none 3 = Int64.ofNat 9221120237041090560 := by decide
  have e : fo3 6 X Y = ro3 X := rfl
  rw [cf3_none hX, nn, e]
  by_cases c1 : so3 X = 3
  · rw [if_neg (by rw [so3_n]; simp [c1])]
    have := so3_c X; unfold ro3; rw [if_neg (show ¬ so3 X = 1 by omega), if_pos (show so3 X = 3 ∨ ng3 X = true from .inl c1)]
  rw [if_pos (by rw [so3_n]; exact c1)]
  rw [if_pos (show (6 : Int32) ≤ 6 by decide)]
  unfold fX8_floating_b78
  simp only [jr_let, ni_6_0, ni_6_1, ni_6_2, ni_6_3, ni_6_4, ni_6_5, ni_6_7, ni_6_8, ni_6_9, ni_6_10, ni_6_11, ni_6_12, ni_6_13, if_true, if_false]
  rw [ct3 hX c1, jr_bs]
theorem cR3_7 {X Y : Nat} (hX : X < 18446744073709551616) (hY : Y < 18446744073709551616) : fX8_floating 3 7 (Int64.ofNat X) (Int64.ofNat Y) = some (Int64.ofNat (fo3 7 X Y)) := by
  unfold fX8_floating
  simp only [jr_let, show fX8_sign 3 = (-9223372036854775808) by decide, ni_7_0, ni_7_1, ni_7_2, ni_7_3, ni_7_4, ni_7_5, ni_7_6, ni_7_8, ni_7_9, ni_7_10, ni_7_11, ni_7_12, ni_7_13, if_true, if_false]
  have nn : fX8_none 3 = Int64.ofNat 9221120237041090560 := by decide
  have e : fo3 7 X Y = su3 X Y (ng3 Y) := rfl
  rw [cf3_none hX, nn, e]
  by_cases c1 : so3 X = 3
  · rw [if_neg (by rw [so3_n]; simp [c1])]
    unfold su3; rw [if_pos (show so3 X = 3 ∨ so3 Y = 3 from .inl c1)]
  rw [if_pos (by rw [so3_n]; exact c1)]
  rw [if_neg (show ¬ (7 : Int32) ≤ 6 by decide), cf3_none hY]
  by_cases c2 : so3 Y = 3
  · rw [if_neg (by rw [so3_n]; simp [c2])]
    unfold su3; rw [if_pos (show so3 X = 3 ∨ so3 Y = 3 from .inr c2)]
  rw [if_pos (by rw [so3_n]; exact c2)]
  unfold fX8_floating_b78
  simp only [jr_let, ni_7_0, ni_7_1, ni_7_2, ni_7_3, ni_7_4, ni_7_5, ni_7_6, ni_7_8, ni_7_9, ni_7_10, ni_7_11, ni_7_12, ni_7_13, if_true, if_false]
  rw [ca3 hX hY c1 c2]
theorem cR3_8 {X Y : Nat} (hX : X < 18446744073709551616) (hY : Y < 18446744073709551616) : fX8_floating 3 8 (Int64.ofNat X) (Int64.ofNat Y) = some (Int64.ofNat (fo3 8 X Y)) := by
  unfold fX8_floating
  simp only [jr_let, show fX8_sign 3 = (-9223372036854775808) by decide, ni_8_0, ni_8_1, ni_8_2, ni_8_3, ni_8_4, ni_8_5, ni_8_6, ni_8_7, ni_8_9, ni_8_10, ni_8_11, ni_8_12, ni_8_13, if_true, if_false]
  have nn : fX8_none 3 = Int64.ofNat 9221120237041090560 := by decide
  have e : fo3 8 X Y = su3 X Y (ng3 Y ^^ true) := rfl
  rw [cf3_none hX, nn, e]
  by_cases c1 : so3 X = 3
  · rw [if_neg (by rw [so3_n]; simp [c1])]
    unfold su3; rw [if_pos (show so3 X = 3 ∨ so3 Y = 3 from .inl c1)]
  rw [if_pos (by rw [so3_n]; exact c1)]
  rw [if_neg (show ¬ (8 : Int32) ≤ 6 by decide), cf3_none hY]
  by_cases c2 : so3 Y = 3
  · rw [if_neg (by rw [so3_n]; simp [c2])]
    unfold su3; rw [if_pos (show so3 X = 3 ∨ so3 Y = 3 from .inr c2)]
  rw [if_pos (by rw [so3_n]; exact c2)]
  unfold fX8_floating_b78
  simp only [jr_let, ni_8_0, ni_8_1, ni_8_2, ni_8_3, ni_8_4, ni_8_5, ni_8_6, ni_8_7, ni_8_9, ni_8_10, ni_8_11, ni_8_12, ni_8_13, if_true, if_false]
  have f := fp3_f hY
  have n : so3 (fp3 Y) ≠ 3 := by unfold so3; rw [f.2.1]; unfold so3 at c2; exact c2
  rw [sx3 hY, ca3 hX f.1 c1 n, f.2.2, su3_f hY]
theorem cR3_9 {X Y : Nat} (hX : X < 18446744073709551616) (hY : Y < 18446744073709551616) : fX8_floating 3 9 (Int64.ofNat X) (Int64.ofNat Y) = some (Int64.ofNat (fo3 9 X Y)) := by
  unfold fX8_floating
  simp only [jr_let, show fX8_sign 3 = (-9223372036854775808) by decide, ni_9_0, ni_9_1, ni_9_2, ni_9_3, ni_9_4, ni_9_5, ni_9_6, ni_9_7, ni_9_8, ni_9_10, ni_9_11, ni_9_12, ni_9_13, if_true, if_false]
  have nn : fX8_none 3 = Int64.ofNat 9221120237041090560 := by decide
  have e : fo3 9 X Y = ml3 X Y := rfl
  rw [cf3_none hX, nn, e]
  by_cases c1 : so3 X = 3
  · rw [if_neg (by rw [so3_n]; simp [c1])]
    unfold ml3; rw [if_pos (show so3 X = 3 ∨ so3 Y = 3 ∨ so3 X + so3 Y = 3 from .inl c1)]
  rw [if_pos (by rw [so3_n]; exact c1)]
  rw [if_neg (show ¬ (9 : Int32) ≤ 6 by decide), cf3_none hY]
  by_cases c2 : so3 Y = 3
  · rw [if_neg (by rw [so3_n]; simp [c2])]
    unfold ml3; rw [if_pos (show so3 X = 3 ∨ so3 Y = 3 ∨ so3 X + so3 Y = 3 from .inr (.inl c2))]
  rw [if_pos (by rw [so3_n]; exact c2)]
  unfold fX8_floating_b78
  simp only [jr_let, ni_9_0, ni_9_1, ni_9_2, ni_9_3, ni_9_4, ni_9_5, ni_9_6, ni_9_7, ni_9_8, ni_9_10, ni_9_11, ni_9_12, ni_9_13, if_true, if_false]
  rw [cm3 hX hY c1 c2]
theorem cR3_10 {X Y : Nat} (hX : X < 18446744073709551616) (hY : Y < 18446744073709551616) : fX8_floating 3 10 (Int64.ofNat X) (Int64.ofNat Y) = some (Int64.ofNat (fo3 10 X Y)) := by
  unfold fX8_floating
  simp only [jr_let, show fX8_sign 3 = (-9223372036854775808) by decide, ni_10_0, ni_10_1, ni_10_2, ni_10_3, ni_10_4, ni_10_5, ni_10_6, ni_10_7, ni_10_8, ni_10_9, ni_10_11, ni_10_12, ni_10_13, if_true, if_false]
  have nn : fX8_none 3 = Int64.ofNat 9221120237041090560 := by decide
  have e : fo3 10 X Y = dv3 X Y := rfl
  rw [cf3_none hX, nn, e]
  by_cases c1 : so3 X = 3
  · rw [if_neg (by rw [so3_n]; simp [c1])]
    unfold dv3; rw [if_pos (show so3 X = 3 ∨ so3 Y = 3 ∨ (so3 X = so3 Y ∧ so3 X ≠ 0) from .inl c1)]
  rw [if_pos (by rw [so3_n]; exact c1)]
  rw [if_neg (show ¬ (10 : Int32) ≤ 6 by decide), cf3_none hY]
  by_cases c2 : so3 Y = 3
  · rw [if_neg (by rw [so3_n]; simp [c2])]
    unfold dv3; rw [if_pos (show so3 X = 3 ∨ so3 Y = 3 ∨ (so3 X = so3 Y ∧ so3 X ≠ 0) from .inr (.inl c2))]
  rw [if_pos (by rw [so3_n]; exact c2)]
  unfold fX8_floating_b78
  simp only [jr_let, ni_10_0, ni_10_1, ni_10_2, ni_10_3, ni_10_4, ni_10_5, ni_10_6, ni_10_7, ni_10_8, ni_10_9, ni_10_11, ni_10_12, ni_10_13, if_true, if_false]
  rw [cd3 hX hY c1 c2, jr_bs]
theorem cR3_11 {X Y : Nat} (hX : X < 18446744073709551616) (hY : Y < 18446744073709551616) : fX8_floating 3 11 (Int64.ofNat X) (Int64.ofNat Y) = some (Int64.ofNat (fo3 11 X Y)) := by
  unfold fX8_floating
  simp only [jr_let, show fX8_sign 3 = (-9223372036854775808) by decide, ni_11_0, ni_11_1, ni_11_2, ni_11_3, ni_11_4, ni_11_5, ni_11_6, ni_11_7, ni_11_8, ni_11_9, ni_11_10, ni_11_12, ni_11_13, if_true, if_false]
  have nn : fX8_none 3 = Int64.ofNat 9221120237041090560 := by decide
  have e : fo3 11 X Y = mi3 true X Y := rfl
  rw [cf3_none hX, nn, e]
  by_cases c1 : so3 X = 3
  · rw [if_neg (by rw [so3_n]; simp [c1])]
    unfold mi3; rw [if_pos (show so3 X = 3 ∨ so3 Y = 3 from .inl c1)]
  rw [if_pos (by rw [so3_n]; exact c1)]
  rw [if_neg (show ¬ (11 : Int32) ≤ 6 by decide), cf3_none hY]
  by_cases c2 : so3 Y = 3
  · rw [if_neg (by rw [so3_n]; simp [c2])]
    unfold mi3; rw [if_pos (show so3 X = 3 ∨ so3 Y = 3 from .inr c2)]
  rw [if_pos (by rw [so3_n]; exact c2)]
  unfold fX8_floating_b78
  simp only [jr_let, ni_11_0, ni_11_1, ni_11_2, ni_11_3, ni_11_4, ni_11_5, ni_11_6, ni_11_7, ni_11_8, ni_11_9, ni_11_10, ni_11_12, ni_11_13, if_true, if_false]
  simp only [jl_lt, cO3 hX, cO3 hY]
  unfold mi3
  rw [if_neg (show ¬ (so3 X = 3 ∨ so3 Y = 3) by omega), if_pos b_tt]
  by_cases d : co3 X ≤ co3 Y
  · rw [if_neg (by omega), if_pos d]
  · rw [if_pos (by omega), if_neg d]
theorem cR3_12 {X Y : Nat} (hX : X < 18446744073709551616) (hY : Y < 18446744073709551616) : fX8_floating 3 12 (Int64.ofNat X) (Int64.ofNat Y) = some (Int64.ofNat (fo3 12 X Y)) := by
  unfold fX8_floating
  simp only [jr_let, show fX8_sign 3 = (-9223372036854775808) by decide, ni_12_0, ni_12_1, ni_12_2, ni_12_3, ni_12_4, ni_12_5, ni_12_6, ni_12_7, ni_12_8, ni_12_9, ni_12_10, ni_12_11, ni_12_13, if_true, if_false]
  have nn : fX8_none 3 = Int64.ofNat 9221120237041090560 := by decide
  have e : fo3 12 X Y = mi3 false X Y := rfl
  rw [cf3_none hX, nn, e]
  by_cases c1 : so3 X = 3
  · rw [if_neg (by rw [so3_n]; simp [c1])]
    unfold mi3; rw [if_pos (show so3 X = 3 ∨ so3 Y = 3 from .inl c1)]
  rw [if_pos (by rw [so3_n]; exact c1)]
  rw [if_neg (show ¬ (12 : Int32) ≤ 6 by decide), cf3_none hY]
  by_cases c2 : so3 Y = 3
  · rw [if_neg (by rw [so3_n]; simp [c2])]
    unfold mi3; rw [if_pos (show so3 X = 3 ∨ so3 Y = 3 from .inr c2)]
  rw [if_pos (by rw [so3_n]; exact c2)]
  unfold fX8_floating_b78
  simp only [jr_let, ni_12_0, ni_12_1, ni_12_2, ni_12_3, ni_12_4, ni_12_5, ni_12_6, ni_12_7, ni_12_8, ni_12_9, ni_12_10, ni_12_11, ni_12_13, if_true, if_false]
  simp only [jl_lt, cO3 hX, cO3 hY]
  unfold mi3
  rw [if_neg (show ¬ (so3 X = 3 ∨ so3 Y = 3) by omega), if_neg b_ft]
  by_cases d : co3 Y ≤ co3 X
  · rw [if_neg (by omega), if_pos d]
  · rw [if_pos (by omega), if_neg d]
theorem cR3_13 {X Y : Nat} (hX : X < 18446744073709551616) (hY : Y < 18446744073709551616) : fX8_floating 3 13 (Int64.ofNat X) (Int64.ofNat Y) = some (Int64.ofNat (fo3 13 X Y)) := by
  unfold fX8_floating
  simp only [jr_let, show fX8_sign 3 = (-9223372036854775808) by decide, ni_13_0, ni_13_1, ni_13_2, ni_13_3, ni_13_4, ni_13_5, ni_13_6, ni_13_7, ni_13_8, ni_13_9, ni_13_10, ni_13_11, ni_13_12, if_true, if_false]
  rw [cs3_m hX, sn3_a hY, sn3_o]
  rfl
