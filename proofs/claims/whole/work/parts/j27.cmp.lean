/-! NUMBERS: floating comparisons; from one type to the other -/
def cp2 (k X Y : Nat) : Bool := if so2 X = 3 ∨ so2 Y = 3 then decide (k = 1) else if k = 0 then decide (ru2 X = ru2 Y) else if k = 1 then decide (¬ ru2 X = ru2 Y) else if k = 2 then decide (ru2 X < ru2 Y) else if k = 3 then decide (ru2 Y < ru2 X) else if k = 4 then decide (ru2 X ≤ ru2 Y) else decide (ru2 Y ≤ ru2 X)
def az2 (X : Nat) : Int := if X % 2147483648 = 0 then 0 else co2 X
theorem az2_c {X Y : Nat} (hX : X < 4294967296) (hY : Y < 4294967296) : ((az2 X = az2 Y) = (ru2 X = ru2 Y)) ∧ ((az2 X ≤ az2 Y) = (ru2 X ≤ ru2 Y)) ∧ ((az2 Y ≤ az2 X) = (ru2 Y ≤ ru2 X)) := by
  have key : ∀ X Y : Nat, X < 4294967296 → Y < 4294967296 → ((az2 X ≤ az2 Y) ↔ (ru2 X ≤ ru2 Y)) := by
    intro X Y hX hY
    unfold az2 ru2 co2
    by_cases a1 : 2147483648 ≤ X <;> by_cases a2 : 2147483648 ≤ Y <;> by_cases a3 : X % 2147483648 = 0 <;> by_cases a4 : Y % 2147483648 = 0 <;> simp only [a1, a2, a3, a4, if_true, if_false] <;> omega
  have k1 := key X Y hX hY
  have k2 := key Y X hY hX
  refine ⟨propext ⟨fun z => ?_, fun z => ?_⟩, propext k1, propext k2⟩
  · have b1 := k1.mp (by omega)
    have b2 := k2.mp (by omega)
    omega
  · have b1 := k1.mpr (by omega)
    have b2 := k2.mpr (by omega)
    omega
theorem mz2 {h : pm_H} (O : mO h) {X Y k : Nat} (hX : X < 4294967296) (hY : Y < 4294967296) (hk : k ≤ 5) : fX16_isReal h 592 (Int32.ofInt k) 2 (Int64.ofNat X) (Int64.ofNat Y) = some (bI (cp2 k X Y), rv (rv h 605 (ng2 X) (so2 X) (wh2 X) (pw2 X)) 606 (ng2 Y) (so2 Y) (wh2 Y) (pw2 Y)) := by
  have O1 := rv_O 605 (ng2 X) (so2 X) (wh2 X) (pw2 X) O
  have O2 := rv_O 606 (ng2 Y) (so2 Y) (wh2 Y) (pw2 Y) O1
  have e1 := mf2 (h := h) (a := 605) O.2.2.2.1 hX
  have e2 := mf2 (h := rv h 605 (ng2 X) (so2 X) (wh2 X) (pw2 X)) (a := 606) O1.2.2.2.2 hY
  have hm := m2_rv h (ng2 X) (so2 X) (wh2 X) (pw2 X) (ng2 Y) (so2 Y) (wh2 Y) (pw2 Y)
  have cX := so2_c X
  have cY := so2_c Y
  have s3 : ∀ s : Nat, s ≤ 3 → (Int32.ofInt (s : Int) = (3 : Int32)) = (s = 3) := fun s hs => so2_i s 3 hs (by decide)
  have q0 : (Int32.ofInt (k : Int) = 0) = (k = 0) := jk_i (j := 0) (by omega) (by decide)
  have q1 : (Int32.ofInt (k : Int) = 1) = (k = 1) := jk_i (j := 1) (by omega) (by decide)
  have q2 : (Int32.ofInt (k : Int) = 2) = (k = 2) := jk_i (j := 2) (by omega) (by decide)
  have q3 : (Int32.ofInt (k : Int) = 3) = (k = 3) := jk_i (j := 3) (by omega) (by decide)
  have q4 : (Int32.ofInt (k : Int) = 4) = (k = 4) := jk_i (j := 4) (by omega) (by decide)
  have bi : ∀ (P : Prop) [Decidable P] (H : pm_H), (if P then some ((1 : Int32), H) else some ((0 : Int32), H)) = some (bI (decide P), H) := by
    intro P _ H
    by_cases p : P
    · rw [if_pos p, decide_eq_true p]; rfl
    · rw [if_neg p, decide_eq_false p]; rfl
  have bj : ∀ (P : Prop) [Decidable P] (H : pm_H), (if P then some ((0 : Int32), H) else some ((1 : Int32), H)) = some (bI (decide (¬ P)), H) := by
    intro P _ H
    by_cases p : P
    · rw [if_pos p, decide_eq_false (by simp [p])]; rfl
    · rw [if_neg p, decide_eq_true p]; rfl
  unfold fX16_isReal
  rw [if_pos O.1, O.2.1, jr_bs, if_pos O.2.2.2.1, e1, jr_bs, if_pos O1.1, O1.2.2.1, jr_bs, if_pos O1.2.2.2.2, e2, jr_bs]
  generalize rv (rv h 605 (ng2 X) (so2 X) (wh2 X) (pw2 X)) 606 (ng2 Y) (so2 Y) (wh2 Y) (pw2 Y) = H at *
  obtain ⟨kk, r1, r2, k1, k2⟩ := O2
  obtain ⟨i0, i1, i2, i3, j0, j1, j2, j3⟩ := hm
  simp only [kk, r1, r2, k1, k2, i1, j1, if_true, jr_bs, jr_let, s3 (so2 X) (by omega), s3 (so2 Y) (by omega), q0, q1, q2, q3, q4, jl_ie, jl_le, jl_lt, mO2 hX, mO2 hY, bi, bj]
  unfold cp2
  by_cases c1 : so2 X = 3
  · rw [if_pos c1, if_pos (.inl c1)]
  rw [if_neg c1]
  by_cases c2 : so2 Y = 3
  · rw [if_pos c2, if_pos (.inr c2)]
  rw [if_neg c2, if_neg (show ¬ (so2 X = 3 ∨ so2 Y = 3) by omega)]
  simp only [Int.not_le, Int.not_lt]
  repeat' split
  all_goals first | rfl | omega
theorem cz2 {X Y k : Nat} (hX : X < 4294967296) (hY : Y < 4294967296) (hk : k ≤ 5) : fX8_compareFloating 2 (Int32.ofInt k) (Int64.ofNat X) (Int64.ofNat Y) = Int64.ofNat (bN (cp2 k X Y)) := by
  have cX := so2_c X
  have cY := so2_c Y
  have q0 : (Int32.ofInt (k : Int) = 0) = (k = 0) := jk_i (j := 0) (by omega) (by decide)
  have q1 : (Int32.ofInt (k : Int) = 1) = (k = 1) := jk_i (j := 1) (by omega) (by decide)
  have q2 : (Int32.ofInt (k : Int) = 2) = (k = 2) := jk_i (j := 2) (by omega) (by decide)
  have q3 : (Int32.ofInt (k : Int) = 3) = (k = 3) := jk_i (j := 3) (by omega) (by decide)
  have q4 : (Int32.ofInt (k : Int) = 4) = (k = 4) := jk_i (j := 4) (by omega) (by decide)
  have az := az2_c hX hY
  have bi : ∀ (P : Prop) [Decidable P], (if P then fX8_compareFloating_b209 1 else fX8_compareFloating_b209 0) = Int64.ofNat (bN (decide P)) := by
    intro P _
    by_cases p : P
    · rw [if_pos p, decide_eq_true p]; rfl
    · rw [if_neg p, decide_eq_false p]; rfl
  have bj : ∀ (P : Prop) [Decidable P], (if P then fX8_compareFloating_b209 0 else fX8_compareFloating_b209 1) = Int64.ofNat (bN (decide (¬ P))) := by
    intro P _
    by_cases p : P
    · rw [if_pos p, decide_eq_false (by simp [p])]; rfl
    · rw [if_neg p, decide_eq_true p]; rfl
  have bk : (if k = 1 then (1 : Int64) else 0) = Int64.ofNat (bN (decide (k = 1))) := by
    by_cases p : k = 1
    · rw [if_pos p, decide_eq_true p]; rfl
    · rw [if_neg p, decide_eq_false p]; rfl
  have B : ∀ a b : Int64, a.toInt = az2 X → b.toInt = az2 Y → so2 X ≠ 3 → so2 Y ≠ 3 → fX8_compareFloating_b66 (Int32.ofInt k) a b = Int64.ofNat (bN (cp2 k X Y)) := by
    intro a b ha hb n1 n2
    unfold fX8_compareFloating_b66 cp2
    rw [if_neg (show ¬ (so2 X = 3 ∨ so2 Y = 3) by omega)]
    simp only [q0, q1, q2, q3, q4, jl_ie, jl_le, jl_lt, ha, hb, bi, bj, az.1, az.2.1, az.2.2, Int.not_le, Int.not_lt, ← Int.not_le]
    repeat' split
    all_goals first | rfl | (simp only [Classical.not_not]; done) | (simp only [Int.not_le]; done)
  unfold fX8_compareFloating fX8_compareFloating_b45
  simp only [jr_let]
  rw [cf2_none hX, cf2_none hY, cf2_zero hX, cf2_zero hY]
  simp only [bI_0, decide_eq_false_iff_not, q1, bk]
  by_cases c1 : so2 X = 3
  · rw [if_neg (show ¬ ¬ 2139095040 < X % 2147483648 by omega)]
    unfold cp2
    rw [if_pos (.inl c1)]
  rw [if_pos (show ¬ 2139095040 < X % 2147483648 by omega)]
  by_cases c2 : so2 Y = 3
  · rw [if_neg (show ¬ ¬ 2139095040 < Y % 2147483648 by omega)]
    unfold cp2
    rw [if_pos (.inr c2)]
  rw [if_pos (show ¬ 2139095040 < Y % 2147483648 by omega)]
  have a0 : X % 2147483648 = 0 → (0 : Int64).toInt = az2 X := fun z => by unfold az2; rw [if_pos z]; rfl
  have a1 : ¬ X % 2147483648 = 0 → (fX8_order 2 (Int64.ofNat X)).toInt = az2 X := fun z => by unfold az2; rw [if_neg z, cO2 hX]
  have b0 : Y % 2147483648 = 0 → (0 : Int64).toInt = az2 Y := fun z => by unfold az2; rw [if_pos z]; rfl
  have b1 : ¬ Y % 2147483648 = 0 → (fX8_order 2 (Int64.ofNat Y)).toInt = az2 Y := fun z => by unfold az2; rw [if_neg z, cO2 hY]
  by_cases d1 : X % 2147483648 = 0
  · by_cases d2 : Y % 2147483648 = 0
    · simp only [d1, d2, not_true_eq_false, if_false]
      exact B _ _ (a0 d1) (b0 d2) c1 c2
    · simp only [d1, d2, not_true_eq_false, not_false_eq_true, if_false, if_true]
      exact B _ _ (a0 d1) (b1 d2) c1 c2
  · by_cases d2 : Y % 2147483648 = 0
    · simp only [d1, d2, not_true_eq_false, not_false_eq_true, if_false, if_true]
      exact B _ _ (a1 d1) (b0 d2) c1 c2
    · simp only [d1, d2, not_false_eq_true, if_true]
      exact B _ _ (a1 d1) (b1 d2) c1 c2
def cp3 (k X Y : Nat) : Bool := if so3 X = 3 ∨ so3 Y = 3 then decide (k = 1) else if k = 0 then decide (ru3 X = ru3 Y) else if k = 1 then decide (¬ ru3 X = ru3 Y) else if k = 2 then decide (ru3 X < ru3 Y) else if k = 3 then decide (ru3 Y < ru3 X) else if k = 4 then decide (ru3 X ≤ ru3 Y) else decide (ru3 Y ≤ ru3 X)
def az3 (X : Nat) : Int := if X % 9223372036854775808 = 0 then 0 else co3 X
theorem az3_c {X Y : Nat} (hX : X < 18446744073709551616) (hY : Y < 18446744073709551616) : ((az3 X = az3 Y) = (ru3 X = ru3 Y)) ∧ ((az3 X ≤ az3 Y) = (ru3 X ≤ ru3 Y)) ∧ ((az3 Y ≤ az3 X) = (ru3 Y ≤ ru3 X)) := by
  have key : ∀ X Y : Nat, X < 18446744073709551616 → Y < 18446744073709551616 → ((az3 X ≤ az3 Y) ↔ (ru3 X ≤ ru3 Y)) := by
    intro X Y hX hY
    unfold az3 ru3 co3
    by_cases a1 : 9223372036854775808 ≤ X <;> by_cases a2 : 9223372036854775808 ≤ Y <;> by_cases a3 : X % 9223372036854775808 = 0 <;> by_cases a4 : Y % 9223372036854775808 = 0 <;> simp only [a1, a2, a3, a4, if_true, if_false] <;> omega
  have k1 := key X Y hX hY
  have k2 := key Y X hY hX
  refine ⟨propext ⟨fun z => ?_, fun z => ?_⟩, propext k1, propext k2⟩
  · have b1 := k1.mp (by omega)
    have b2 := k2.mp (by omega)
    omega
  · have b1 := k1.mpr (by omega)
    have b2 := k2.mpr (by omega)
    omega
theorem mz3 {h : pm_H} (O : mO h) {X Y k : Nat} (hX : X < 18446744073709551616) (hY : Y < 18446744073709551616) (hk : k ≤ 5) : fX16_isReal h 592 (Int32.ofInt k) 3 (Int64.ofNat X) (Int64.ofNat Y) = some (bI (cp3 k X Y), rv (rv h 605 (ng3 X) (so3 X) (wh3 X) (pw3 X)) 606 (ng3 Y) (so3 Y) (wh3 Y) (pw3 Y)) := by
  have O1 := rv_O 605 (ng3 X) (so3 X) (wh3 X) (pw3 X) O
  have O2 := rv_O 606 (ng3 Y) (so3 Y) (wh3 Y) (pw3 Y) O1
  have e1 := mf3 (h := h) (a := 605) O.2.2.2.1 hX
  have e2 := mf3 (h := rv h 605 (ng3 X) (so3 X) (wh3 X) (pw3 X)) (a := 606) O1.2.2.2.2 hY
  have hm := m2_rv h (ng3 X) (so3 X) (wh3 X) (pw3 X) (ng3 Y) (so3 Y) (wh3 Y) (pw3 Y)
  have cX := so3_c X
  have cY := so3_c Y
  have s3 : ∀ s : Nat, s ≤ 3 → (Int32.ofInt (s : Int) = (3 : Int32)) = (s = 3) := fun s hs => so3_i s 3 hs (by decide)
  have q0 : (Int32.ofInt (k : Int) = 0) = (k = 0) := jk_i (j := 0) (by omega) (by decide)
  have q1 : (Int32.ofInt (k : Int) = 1) = (k = 1) := jk_i (j := 1) (by omega) (by decide)
  have q2 : (Int32.ofInt (k : Int) = 2) = (k = 2) := jk_i (j := 2) (by omega) (by decide)
  have q3 : (Int32.ofInt (k : Int) = 3) = (k = 3) := jk_i (j := 3) (by omega) (by decide)
  have q4 : (Int32.ofInt (k : Int) = 4) = (k = 4) := jk_i (j := 4) (by omega) (by decide)
  have bi : ∀ (P : Prop) [Decidable P] (H : pm_H), (if P then some ((1 : Int32), H) else some ((0 : Int32), H)) = some (bI (decide P), H) := by
    intro P _ H
    by_cases p : P
    · rw [if_pos p, decide_eq_true p]; rfl
    · rw [if_neg p, decide_eq_false p]; rfl
  have bj : ∀ (P : Prop) [Decidable P] (H : pm_H), (if P then some ((0 : Int32), H) else some ((1 : Int32), H)) = some (bI (decide (¬ P)), H) := by
    intro P _ H
    by_cases p : P
    · rw [if_pos p, decide_eq_false (by simp [p])]; rfl
    · rw [if_neg p, decide_eq_true p]; rfl
  unfold fX16_isReal
  rw [if_pos O.1, O.2.1, jr_bs, if_pos O.2.2.2.1, e1, jr_bs, if_pos O1.1, O1.2.2.1, jr_bs, if_pos O1.2.2.2.2, e2, jr_bs]
  generalize rv (rv h 605 (ng3 X) (so3 X) (wh3 X) (pw3 X)) 606 (ng3 Y) (so3 Y) (wh3 Y) (pw3 Y) = H at *
  obtain ⟨kk, r1, r2, k1, k2⟩ := O2
  obtain ⟨i0, i1, i2, i3, j0, j1, j2, j3⟩ := hm
  simp only [kk, r1, r2, k1, k2, i1, j1, if_true, jr_bs, jr_let, s3 (so3 X) (by omega), s3 (so3 Y) (by omega), q0, q1, q2, q3, q4, jl_ie, jl_le, jl_lt, mO3 hX, mO3 hY, bi, bj]
  unfold cp3
  by_cases c1 : so3 X = 3
  · rw [if_pos c1, if_pos (.inl c1)]
  rw [if_neg c1]
  by_cases c2 : so3 Y = 3
  · rw [if_pos c2, if_pos (.inr c2)]
  rw [if_neg c2, if_neg (show ¬ (so3 X = 3 ∨ so3 Y = 3) by omega)]
  simp only [Int.not_le, Int.not_lt]
  repeat' split
  all_goals first | rfl | omega
theorem cz3 {X Y k : Nat} (hX : X < 18446744073709551616) (hY : Y < 18446744073709551616) (hk : k ≤ 5) : fX8_compareFloating 3 (Int32.ofInt k) (Int64.ofNat X) (Int64.ofNat Y) = Int64.ofNat (bN (cp3 k X Y)) := by
  have cX := so3_c X
  have cY := so3_c Y
  have q0 : (Int32.ofInt (k : Int) = 0) = (k = 0) := jk_i (j := 0) (by omega) (by decide)
  have q1 : (Int32.ofInt (k : Int) = 1) = (k = 1) := jk_i (j := 1) (by omega) (by decide)
  have q2 : (Int32.ofInt (k : Int) = 2) = (k = 2) := jk_i (j := 2) (by omega) (by decide)
  have q3 : (Int32.ofInt (k : Int) = 3) = (k = 3) := jk_i (j := 3) (by omega) (by decide)
  have q4 : (Int32.ofInt (k : Int) = 4) = (k = 4) := jk_i (j := 4) (by omega) (by decide)
  have az := az3_c hX hY
  have bi : ∀ (P : Prop) [Decidable P], (if P then fX8_compareFloating_b209 1 else fX8_compareFloating_b209 0) = Int64.ofNat (bN (decide P)) := by
    intro P _
    by_cases p : P
    · rw [if_pos p, decide_eq_true p]; rfl
    · rw [if_neg p, decide_eq_false p]; rfl
  have bj : ∀ (P : Prop) [Decidable P], (if P then fX8_compareFloating_b209 0 else fX8_compareFloating_b209 1) = Int64.ofNat (bN (decide (¬ P))) := by
    intro P _
    by_cases p : P
    · rw [if_pos p, decide_eq_false (by simp [p])]; rfl
    · rw [if_neg p, decide_eq_true p]; rfl
  have bk : (if k = 1 then (1 : Int64) else 0) = Int64.ofNat (bN (decide (k = 1))) := by
    by_cases p : k = 1
    · rw [if_pos p, decide_eq_true p]; rfl
    · rw [if_neg p, decide_eq_false p]; rfl
  have B : ∀ a b : Int64, a.toInt = az3 X → b.toInt = az3 Y → so3 X ≠ 3 → so3 Y ≠ 3 → fX8_compareFloating_b66 (Int32.ofInt k) a b = Int64.ofNat (bN (cp3 k X Y)) := by
    intro a b ha hb n1 n2
    unfold fX8_compareFloating_b66 cp3
    rw [if_neg (show ¬ (so3 X = 3 ∨ so3 Y = 3) by omega)]
    simp only [q0, q1, q2, q3, q4, jl_ie, jl_le, jl_lt, ha, hb, bi, bj, az.1, az.2.1, az.2.2, Int.not_le, Int.not_lt, ← Int.not_le]
    repeat' split
    all_goals first | rfl | (simp only [Classical.not_not]; done) | (simp only [Int.not_le]; done)
  unfold fX8_compareFloating fX8_compareFloating_b45
  simp only [jr_let]
  rw [cf3_none hX, cf3_none hY, cf3_zero hX, cf3_zero hY]
  simp only [bI_0, decide_eq_false_iff_not, q1, bk]
  by_cases c1 : so3 X = 3
  · rw [if_neg (show ¬ ¬ 9218868437227405312 < X % 9223372036854775808 by omega)]
    unfold cp3
    rw [if_pos (.inl c1)]
  rw [if_pos (show ¬ 9218868437227405312 < X % 9223372036854775808 by omega)]
  by_cases c2 : so3 Y = 3
  · rw [if_neg (show ¬ ¬ 9218868437227405312 < Y % 9223372036854775808 by omega)]
    unfold cp3
    rw [if_pos (.inr c2)]
  rw [if_pos (show ¬ 9218868437227405312 < Y % 9223372036854775808 by omega)]
  have a0 : X % 9223372036854775808 = 0 → (0 : Int64).toInt = az3 X := fun z => by unfold az3; rw [if_pos z]; rfl
  have a1 : ¬ X % 9223372036854775808 = 0 → (fX8_order 3 (Int64.ofNat X)).toInt = az3 X := fun z => by unfold az3; rw [if_neg z, cO3 hX]
  have b0 : Y % 9223372036854775808 = 0 → (0 : Int64).toInt = az3 Y := fun z => by unfold az3; rw [if_pos z]; rfl
  have b1 : ¬ Y % 9223372036854775808 = 0 → (fX8_order 3 (Int64.ofNat Y)).toInt = az3 Y := fun z => by unfold az3; rw [if_neg z, cO3 hY]
  by_cases d1 : X % 9223372036854775808 = 0
  · by_cases d2 : Y % 9223372036854775808 = 0
    · simp only [d1, d2, not_true_eq_false, if_false]
      exact B _ _ (a0 d1) (b0 d2) c1 c2
    · simp only [d1, d2, not_true_eq_false, not_false_eq_true, if_false, if_true]
      exact B _ _ (a0 d1) (b1 d2) c1 c2
  · by_cases d2 : Y % 9223372036854775808 = 0
    · simp only [d1, d2, not_true_eq_false, not_false_eq_true, if_false, if_true]
      exact B _ _ (a1 d1) (b0 d2) c1 c2
    · simp only [d1, d2, not_false_eq_true, if_true]
      exact B _ _ (a1 d1) (b1 d2) c1 c2
theorem mu_of2 {g : Bool} {V : Nat} (h : V < 18446744073709551616) : fX16_ofWhole 2 (Int64.ofNat V) (bI g) = some (Int64.ofNat (if V = 0 then 0 else f2 g V 0 false)) := by
  unfold fX16_ofWhole
  by_cases c : V = 0
  · subst c
    rw [if_pos (show Int64.ofNat 0 = 0 from rfl), if_pos rfl]
    rfl
  · have R := mr2 g false (hi := 0) (lo := V) (M := V) (E := 0) (by decide) h (by rw [Nat.zero_mul, Nat.zero_add]) c (by decide) (by decide)
    rw [show Int64.ofNat 0 = 0 from rfl, show Int32.ofInt 0 = 0 from rfl, show bI false = 0 from rfl] at R
    rw [if_neg (by rw [n6_0, jl_eq h (by decide)]; exact c), R, jr_bs, if_neg c]
theorem mu_of3 {g : Bool} {V : Nat} (h : V < 18446744073709551616) : fX16_ofWhole 3 (Int64.ofNat V) (bI g) = some (Int64.ofNat (if V = 0 then 0 else f3 g V 0 false)) := by
  unfold fX16_ofWhole
  by_cases c : V = 0
  · subst c
    rw [if_pos (show Int64.ofNat 0 = 0 from rfl), if_pos rfl]
    rfl
  · have R := mr3 g false (hi := 0) (lo := V) (M := V) (E := 0) (by decide) h (by rw [Nat.zero_mul, Nat.zero_add]) c (by decide) (by decide)
    rw [show Int64.ofNat 0 = 0 from rfl, show Int32.ofInt 0 = 0 from rfl, show bI false = 0 from rfl] at R
    rw [if_neg (by rw [n6_0, jl_eq h (by decide)]; exact c), R, jr_bs, if_neg c]
theorem cu_of2 {V : Nat} (h : V < 18446744073709551616) (u : Bool) : fX8_fromWhole 2 (Int64.ofNat V) (bI u) = Int64.ofNat (if V < 9223372036854775808 ∨ u = true then (if V = 0 then 0 else f2 false V 0 false) else f2 true (18446744073709551616 - V) 0 false) := by
  have z0 : f2 false 0 0 false = 0 := by unfold f2 fl; rw [if_pos rfl]; rfl
  have R0 : fX8_round 2 0 (Int64.ofNat V) 0 = Int64.ofNat (if V = 0 then 0 else f2 false V 0 false) := by
    have := cr2 false (M := V) (E := 0) h (by decide) (by decide)
    rw [show bI false = 0 from rfl, show Int32.ofInt 0 = 0 from rfl] at this
    rw [this]
    by_cases c : V = 0
    · rw [if_pos c, c, z0]
    · rw [if_neg c]
  unfold fX8_fromWhole
  by_cases c : V < 9223372036854775808
  · rw [if_pos (jl_pos c), if_pos rfl, jr_let, R0, if_pos (show V < 9223372036854775808 ∨ u = true from .inl c)]
  · rw [if_neg (Int64.not_le.mpr (jl_neg (by omega) h))]
    cases u with
    | false =>
      have R1 := cr2 true (M := 18446744073709551616 - V) (E := 0) (by omega) (by decide) (by decide)
      rw [show bI true = 1 from rfl, show Int32.ofInt 0 = 0 from rfl] at R1
      rw [if_pos (show bI false = 0 from rfl), if_neg (by decide), jr_let, jl_ng (by omega), R1, if_neg (by simp; omega)]
    | true =>
      rw [if_neg (show ¬ bI true = 0 by decide), if_pos rfl, jr_let, R0, if_pos (show V < 9223372036854775808 ∨ true = true from .inr rfl)]
theorem cu_of3 {V : Nat} (h : V < 18446744073709551616) (u : Bool) : fX8_fromWhole 3 (Int64.ofNat V) (bI u) = Int64.ofNat (if V < 9223372036854775808 ∨ u = true then (if V = 0 then 0 else f3 false V 0 false) else f3 true (18446744073709551616 - V) 0 false) := by
  have z0 : f3 false 0 0 false = 0 := by unfold f3 fl; rw [if_pos rfl]; rfl
  have R0 : fX8_round 3 0 (Int64.ofNat V) 0 = Int64.ofNat (if V = 0 then 0 else f3 false V 0 false) := by
    have := cr3 false (M := V) (E := 0) h (by decide) (by decide)
    rw [show bI false = 0 from rfl, show Int32.ofInt 0 = 0 from rfl] at this
    rw [this]
    by_cases c : V = 0
    · rw [if_pos c, c, z0]
    · rw [if_neg c]
  unfold fX8_fromWhole
  by_cases c : V < 9223372036854775808
  · rw [if_pos (jl_pos c), if_pos rfl, jr_let, R0, if_pos (show V < 9223372036854775808 ∨ u = true from .inl c)]
  · rw [if_neg (Int64.not_le.mpr (jl_neg (by omega) h))]
    cases u with
    | false =>
      have R1 := cr3 true (M := 18446744073709551616 - V) (E := 0) (by omega) (by decide) (by decide)
      rw [show bI true = 1 from rfl, show Int32.ofInt 0 = 0 from rfl] at R1
      rw [if_pos (show bI false = 0 from rfl), if_neg (by decide), jr_let, jl_ng (by omega), R1, if_neg (by simp; omega)]
    | true =>
      rw [if_neg (show ¬ bI true = 0 by decide), if_pos rfl, jr_let, R0, if_pos (show V < 9223372036854775808 ∨ true = true from .inr rfl)]
/-- from one floating type to the other -/
def mv2 (X : Nat) : Nat := if so3 X = 3 then 2143289344 else if so3 X = 0 then f2 (ng3 X) (wh3 X) (pw3 X) false else if so3 X = 2 then sg2 (ng3 X) + 2139095040 else sg2 (ng3 X)
def mv3 (X : Nat) : Nat := if so2 X = 3 then 9221120237041090560 else if so2 X = 0 then f3 (ng2 X) (wh2 X) (pw2 X) false else if so2 X = 2 then sg3 (ng2 X) + 9218868437227405312 else sg3 (ng2 X)
theorem mv_m2 {h : pm_H} (O : mO h) {X : Nat} (hX : X < 18446744073709551616) : fX16_moved h 592 2 3 (Int64.ofNat X) = some (Int64.ofNat (mv2 X), rv h 605 (ng3 X) (so3 X) (wh3 X) (pw3 X)) := by
  have O1 := rv_O 605 (ng3 X) (so3 X) (wh3 X) (pw3 X) O
  have e1 := mf3 (h := h) (a := 605) O.2.2.2.1 hX
  have i0 := rv_I0 h 605 (ng3 X) (so3 X) (wh3 X) (pw3 X)
  have i1 := rv_I1 h 605 (ng3 X) (so3 X) (wh3 X) (pw3 X)
  have i2 := rv_L2 h 605 (ng3 X) (so3 X) (wh3 X) (pw3 X)
  have i3 := rv_I3 h 605 (ng3 X) (so3 X) (wh3 X) (pw3 X)
  have cX := so3_c X
  have w := wh3_lt X
  have pb := pw3_b X
  have s3 : ∀ s : Nat, s ≤ 3 → (Int32.ofInt (s : Int) = (3 : Int32)) = (s = 3) := fun s hs => so3_i s 3 hs (by decide)
  have s2 : ∀ s : Nat, s ≤ 3 → (Int32.ofInt (s : Int) = (2 : Int32)) = (s = 2) := fun s hs => so3_i s 2 hs (by decide)
  have s0 : (Int32.ofInt (so3 X : Int) ≤ (0 : Int32)) = (so3 X = 0) := by
    rw [m3_0, zz_le (by omega) (by omega) (by omega) (by omega)]
    exact propext ⟨fun z => by omega, fun z => by omega⟩
  have nn : fX16_noneOf 2 = Int64.ofNat 2143289344 := by decide
  have ni : fX16_withSign 2 (bI (ng3 X)) (fX16_infinite 2) = Int64.ofNat (sg2 (ng3 X) + 2139095040) := by
    rw [show fX16_infinite 2 = Int64.ofNat 2139095040 by decide]
    exact mw2 (ng3 X) (by decide)
  have nz : fX16_withSign 2 (bI (ng3 X)) 0 = Int64.ofNat (sg2 (ng3 X)) := mw2 (ng3 X) (a := 0) (by decide)
  unfold fX16_moved mv2
  rw [if_pos O.1, O.2.1, jr_bs, if_pos O.2.2.2.1, e1, jr_bs]
  generalize rv h 605 (ng3 X) (so3 X) (wh3 X) (pw3 X) = H at *
  rw [if_pos O1.1, O1.2.1, jr_bs, if_pos O1.2.2.2.1]
  simp only [i0, i1, i2, i3, s3 (so3 X) (by omega), s2 (so3 X) (by omega), s0, nn, ni, nz, jr_let]
  by_cases c1 : so3 X = 3
  · rw [if_pos c1, if_pos c1]
  rw [if_neg c1, if_neg c1]
  by_cases c2 : so3 X = 0
  · have R := mr2 (ng3 X) false (hi := 0) (lo := wh3 X) (M := wh3 X) (E := pw3 X) (by decide) (by omega) (by rw [Nat.zero_mul, Nat.zero_add]) (wh3_0 (by omega)) (by omega) (by omega)
    rw [show Int64.ofNat 0 = 0 from rfl, show bI false = 0 from rfl] at R
    rw [if_pos c2, if_pos c2, R, jr_bs]
  rw [if_neg c2, if_neg c2]
  by_cases c3 : so3 X = 2
  · rw [if_pos c3, if_pos c3]
  · rw [if_neg c3, if_neg c3]
theorem mv_c2 {X : Nat} (hX : X < 18446744073709551616) : fX8_resized 3 2 (Int64.ofNat X) = Int64.ofNat (mv2 X) := by
  have cX := so3_c X
  have bE := sE3_b X
  have eA : wh3 X * 2 ^ (53 - nl (wh3 X)) = sA3 X := rfl
  have eE : pw3 X - ((53 - nl (wh3 X) : Nat) : Int) = sE3 X := rfl
  have nn : fX8_none 2 = Int64.ofNat 2143289344 := by decide
  have B : ∀ g : Bool, ng3 X = g → so3 X ≠ 3 → fX8_resized_b29 3 2 (Int64.ofNat X) (Int64.ofNat (sg2 g)) = Int64.ofNat (mv2 X) := by
    intro g hg n3
    have ni : Int64.ofNat (sg2 g) ||| fX8_infinite 2 = Int64.ofNat (sg2 g + 2139095040) := by
      rw [show fX8_infinite 2 = Int64.ofNat 2139095040 by decide]
      have o := jl_o (k := 31) (a := 2139095040) (c := bN g) (by decide) (by cases g <;> decide)
      have e : bN g * 2 ^ 31 = sg2 g := by cases g <;> rfl
      rw [e] at o
      exact o
    unfold fX8_resized_b29 mv2
    simp only [jr_let]
    rw [cf3_zero hX, cf3_inf hX, ni, if_neg n3, hg]
    by_cases c1 : so3 X = 1
    · rw [if_neg (by rw [bI_0]; simp; omega), if_neg (show ¬ so3 X = 0 by omega), if_neg (show ¬ so3 X = 2 by omega)]
    rw [if_pos (by rw [bI_0]; simp; omega)]
    by_cases c2 : so3 X = 2
    · rw [if_neg (by rw [bI_0]; simp; omega), if_neg (show ¬ so3 X = 0 by omega), if_pos c2]
    have x0 : X % 9223372036854775808 ≠ 0 := by omega
    have s := sn3 x0
    rw [eA] at s
    have F := fl_ex (w := 31) (p := 24) (em := (-149)) (top := 255) (g := g) (M := wh3 X) (E := pw3 X) (53 - nl (wh3 X)) (wh3_0 x0)
    rw [eA, eE] at F
    rw [if_pos (by rw [bI_0]; simp; omega), if_pos (show so3 X = 0 by omega), cs3 hX x0, cq3 hX x0, eA, eE]
    unfold f2
    rw [← F]
    cases g with
    | false =>
      have R := cr2 false (M := sA3 X) (E := sE3 X) (by omega) (by omega) (by omega)
      rw [show bI false = 0 from rfl] at R
      rw [if_pos (show Int64.ofNat (sg2 false) = 0 by decide), R]
    | true =>
      have R := cr2 true (M := sA3 X) (E := sE3 X) (by omega) (by omega) (by omega)
      rw [show bI true = 1 from rfl] at R
      rw [if_neg (show ¬ Int64.ofNat (sg2 true) = 0 by decide), R]
  unfold fX8_resized
  simp only [jr_let]
  rw [cf3_none hX, cf3_minus hX, nn]
  by_cases c1 : so3 X = 3
  · rw [if_neg (by rw [bI_0]; simp; omega)]
    unfold mv2
    rw [if_pos c1]
  rw [if_pos (by rw [bI_0]; simp; omega)]
  cases hg : ng3 X with
  | false =>
    have b := B false hg c1
    rw [show Int64.ofNat (sg2 false) = 0 by decide] at b
    rw [if_pos (show bI false = 0 from rfl), b]
  | true =>
    have b := B true hg c1
    rw [if_neg (show ¬ bI true = 0 by decide), show fX8_sign 2 = Int64.ofNat (sg2 true) by decide, b]
theorem mv_m3 {h : pm_H} (O : mO h) {X : Nat} (hX : X < 4294967296) : fX16_moved h 592 3 2 (Int64.ofNat X) = some (Int64.ofNat (mv3 X), rv h 605 (ng2 X) (so2 X) (wh2 X) (pw2 X)) := by
  have O1 := rv_O 605 (ng2 X) (so2 X) (wh2 X) (pw2 X) O
  have e1 := mf2 (h := h) (a := 605) O.2.2.2.1 hX
  have i0 := rv_I0 h 605 (ng2 X) (so2 X) (wh2 X) (pw2 X)
  have i1 := rv_I1 h 605 (ng2 X) (so2 X) (wh2 X) (pw2 X)
  have i2 := rv_L2 h 605 (ng2 X) (so2 X) (wh2 X) (pw2 X)
  have i3 := rv_I3 h 605 (ng2 X) (so2 X) (wh2 X) (pw2 X)
  have cX := so2_c X
  have w := wh2_lt X
  have pb := pw2_b X
  have s3 : ∀ s : Nat, s ≤ 3 → (Int32.ofInt (s : Int) = (3 : Int32)) = (s = 3) := fun s hs => so2_i s 3 hs (by decide)
  have s2 : ∀ s : Nat, s ≤ 3 → (Int32.ofInt (s : Int) = (2 : Int32)) = (s = 2) := fun s hs => so2_i s 2 hs (by decide)
  have s0 : (Int32.ofInt (so2 X : Int) ≤ (0 : Int32)) = (so2 X = 0) := by
    rw [m3_0, zz_le (by omega) (by omega) (by omega) (by omega)]
    exact propext ⟨fun z => by omega, fun z => by omega⟩
  have nn : fX16_noneOf 3 = Int64.ofNat 9221120237041090560 := by decide
  have ni : fX16_withSign 3 (bI (ng2 X)) (fX16_infinite 3) = Int64.ofNat (sg3 (ng2 X) + 9218868437227405312) := by
    rw [show fX16_infinite 3 = Int64.ofNat 9218868437227405312 by decide]
    exact mw3 (ng2 X) (by decide)
  have nz : fX16_withSign 3 (bI (ng2 X)) 0 = Int64.ofNat (sg3 (ng2 X)) := mw3 (ng2 X) (a := 0) (by decide)
  unfold fX16_moved mv3
  rw [if_pos O.1, O.2.1, jr_bs, if_pos O.2.2.2.1, e1, jr_bs]
  generalize rv h 605 (ng2 X) (so2 X) (wh2 X) (pw2 X) = H at *
  rw [if_pos O1.1, O1.2.1, jr_bs, if_pos O1.2.2.2.1]
  simp only [i0, i1, i2, i3, s3 (so2 X) (by omega), s2 (so2 X) (by omega), s0, nn, ni, nz, jr_let]
  by_cases c1 : so2 X = 3
  · rw [if_pos c1, if_pos c1]
  rw [if_neg c1, if_neg c1]
  by_cases c2 : so2 X = 0
  · have R := mr3 (ng2 X) false (hi := 0) (lo := wh2 X) (M := wh2 X) (E := pw2 X) (by decide) (by omega) (by rw [Nat.zero_mul, Nat.zero_add]) (wh2_0 (by omega)) (by omega) (by omega)
    rw [show Int64.ofNat 0 = 0 from rfl, show bI false = 0 from rfl] at R
    rw [if_pos c2, if_pos c2, R, jr_bs]
  rw [if_neg c2, if_neg c2]
  by_cases c3 : so2 X = 2
  · rw [if_pos c3, if_pos c3]
  · rw [if_neg c3, if_neg c3]
theorem mv_c3 {X : Nat} (hX : X < 4294967296) : fX8_resized 2 3 (Int64.ofNat X) = Int64.ofNat (mv3 X) := by
  have cX := so2_c X
  have bE := sE2_b X
  have eA : wh2 X * 2 ^ (53 - nl (wh2 X)) = sA2 X := rfl
  have eE : pw2 X - ((53 - nl (wh2 X) : Nat) : Int) = sE2 X := rfl
  have nn : fX8_none 3 = Int64.ofNat 9221120237041090560 := by decide
  have B : ∀ g : Bool, ng2 X = g → so2 X ≠ 3 → fX8_resized_b29 2 3 (Int64.ofNat X) (Int64.ofNat (sg3 g)) = Int64.ofNat (mv3 X) := by
    intro g hg n3
    have ni : Int64.ofNat (sg3 g) ||| fX8_infinite 3 = Int64.ofNat (sg3 g + 9218868437227405312) := by
      rw [show fX8_infinite 3 = Int64.ofNat 9218868437227405312 by decide]
      have o := jl_o (k := 63) (a := 9218868437227405312) (c := bN g) (by decide) (by cases g <;> decide)
      have e : bN g * 2 ^ 63 = sg3 g := by cases g <;> rfl
      rw [e] at o
      exact o
    unfold fX8_resized_b29 mv3
    simp only [jr_let]
    rw [cf2_zero hX, cf2_inf hX, ni, if_neg n3, hg]
    by_cases c1 : so2 X = 1
    · rw [if_neg (by rw [bI_0]; simp; omega), if_neg (show ¬ so2 X = 0 by omega), if_neg (show ¬ so2 X = 2 by omega)]
    rw [if_pos (by rw [bI_0]; simp; omega)]
    by_cases c2 : so2 X = 2
    · rw [if_neg (by rw [bI_0]; simp; omega), if_neg (show ¬ so2 X = 0 by omega), if_pos c2]
    have x0 : X % 2147483648 ≠ 0 := by omega
    have s := sn2 x0
    rw [eA] at s
    have F := fl_ex (w := 63) (p := 53) (em := (-1074)) (top := 2047) (g := g) (M := wh2 X) (E := pw2 X) (53 - nl (wh2 X)) (wh2_0 x0)
    rw [eA, eE] at F
    rw [if_pos (by rw [bI_0]; simp; omega), if_pos (show so2 X = 0 by omega), cs2 hX x0, cq2 hX x0, eA, eE]
    unfold f3
    rw [← F]
    cases g with
    | false =>
      have R := cr3 false (M := sA2 X) (E := sE2 X) (by omega) (by omega) (by omega)
      rw [show bI false = 0 from rfl] at R
      rw [if_pos (show Int64.ofNat (sg3 false) = 0 by decide), R]
    | true =>
      have R := cr3 true (M := sA2 X) (E := sE2 X) (by omega) (by omega) (by omega)
      rw [show bI true = 1 from rfl] at R
      rw [if_neg (show ¬ Int64.ofNat (sg3 true) = 0 by decide), R]
  unfold fX8_resized
  simp only [jr_let]
  rw [cf2_none hX, cf2_minus hX, nn]
  by_cases c1 : so2 X = 3
  · rw [if_neg (by rw [bI_0]; simp; omega)]
    unfold mv3
    rw [if_pos c1]
  rw [if_pos (by rw [bI_0]; simp; omega)]
  cases hg : ng2 X with
  | false =>
    have b := B false hg c1
    rw [show Int64.ofNat (sg3 false) = 0 by decide] at b
    rw [if_pos (show bI false = 0 from rfl), b]
  | true =>
    have b := B true hg c1
    rw [if_neg (show ¬ bI true = 0 by decide), show fX8_sign 3 = Int64.ofNat (sg3 true) by decide, b]
