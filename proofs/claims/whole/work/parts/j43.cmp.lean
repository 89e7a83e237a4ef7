/-! NUMBERS: every comparison of whole numbers alike -/
theorem nu_i0 (X : Nat) : (Int64.ofNat X).toInt32.toInt64 = (Int32.ofNat X).toInt64 := by rw [ll_t3]
theorem nu_eq {X Y : Nat} (hX : X < 4294967296) (hY : Y < 4294967296) : ((Int64.ofNat X).toInt32.toInt64 = (Int64.ofNat Y).toInt32.toInt64) = (X = Y) := by
  rw [nu_i0, nu_i0]
  exact propext ⟨fun e => by have := j3_i e; rwa [jn_eq hX hY] at this, fun e => by rw [e]⟩
theorem cq_64 {X Y : Nat} (hX : X < 18446744073709551616) (hY : Y < 18446744073709551616) : fX8_compareWithoutSign (Int64.ofNat X) (Int64.ofNat Y) = if Y ≤ X then (if X = Y then 0 else 1) else -1 := by
  show fJ13_compare_74951 _ _ = _
  unfold fJ13_compare_74951
  have e1 : (Int64.ofNat Y ^^^ (-9223372036854775808) ≤ Int64.ofNat X ^^^ (-9223372036854775808)) = (Y ≤ X) := by rw [Int64.le_iff_toInt_le, jl_x hX, jl_x hY]; exact propext (by omega)
  have e2 : (Int64.ofNat X ^^^ (-9223372036854775808) = Int64.ofNat Y ^^^ (-9223372036854775808)) = (X = Y) := by rw [jl_ie, jl_x hX, jl_x hY]; exact propext (by omega)
  simp only [e1, e2]
theorem cq_32 {X Y : Nat} (hX : X < 4294967296) (hY : Y < 4294967296) : fJ13_compare_74951 (Int64.ofNat X) (Int64.ofNat Y) = if Y ≤ X then (if X = Y then 0 else 1) else -1 := by
  unfold fJ13_compare_74951
  simp only [ll_le (show Y < 9223372036854775808 by omega) (show X < 9223372036854775808 by omega), jl_eq (show X < 18446744073709551616 by omega) (show Y < 18446744073709551616 by omega)]
theorem iw_0 (a b x y : Int64) : fX16_isWhole 0 a b x y = (if x = y then (some 1) else (some 0)) := by
  unfold fX16_isWhole
  rw [if_pos rfl]
theorem iw_1 (a b x y : Int64) : fX16_isWhole 1 a b x y = (if x = y then (some 0) else (some 1)) := by
  unfold fX16_isWhole
  rw [if_neg (by decide), if_pos rfl]
theorem iw_2 (a b x y : Int64) : fX16_isWhole 2 a b x y = (if b ≤ a then (some 0) else (some 1)) := by
  unfold fX16_isWhole
  rw [if_neg (by decide), if_neg (by decide), if_pos rfl]
theorem iw_3 (a b x y : Int64) : fX16_isWhole 3 a b x y = (if fX16_isBelow x y = 0 ∨ fX16_isBelow x y = 1 then some (fX16_isBelow x y) else none) := by
  unfold fX16_isWhole
  rw [if_neg (by decide), if_neg (by decide), if_neg (by decide), if_pos rfl]
  simp only [jr_let]
theorem iw_4 (a b x y : Int64) : fX16_isWhole 4 a b x y = (if a ≤ b then (some 0) else (some 1)) := by
  unfold fX16_isWhole
  rw [if_neg (by decide), if_neg (by decide), if_neg (by decide), if_neg (by decide), if_pos rfl]
theorem iw_5 (a b x y : Int64) : fX16_isWhole 5 a b x y = (if fX16_isBelow y x = 0 ∨ fX16_isBelow y x = 1 then some (fX16_isBelow y x) else none) := by
  unfold fX16_isWhole
  rw [if_neg (by decide), if_neg (by decide), if_neg (by decide), if_neg (by decide), if_neg (by decide), if_pos rfl]
  simp only [jr_let]
theorem iw_6 (a b x y : Int64) : fX16_isWhole 6 a b x y = (if b < a then (some 0) else (some 1)) := by
  unfold fX16_isWhole
  rw [if_neg (by decide), if_neg (by decide), if_neg (by decide), if_neg (by decide), if_neg (by decide), if_neg (by decide), if_pos rfl]
theorem iw_7 (a b x y : Int64) : fX16_isWhole 7 a b x y = (if fX16_isBelow y x = 0 then (some 1) else (some 0)) := by
  unfold fX16_isWhole
  rw [if_neg (by decide), if_neg (by decide), if_neg (by decide), if_neg (by decide), if_neg (by decide), if_neg (by decide), if_neg (by decide), if_pos rfl]
  simp only [jr_let]
theorem iw_8 (a b x y : Int64) : fX16_isWhole 8 a b x y = (if a < b then (some 0) else (some 1)) := by
  unfold fX16_isWhole
  rw [if_neg (by decide), if_neg (by decide), if_neg (by decide), if_neg (by decide), if_neg (by decide), if_neg (by decide), if_neg (by decide), if_neg (by decide), if_pos rfl]
theorem iw_9 (a b x y : Int64) : fX16_isWhole 9 a b x y = (if fX16_isBelow x y = 0 then (some 1) else (some 0)) := by
  unfold fX16_isWhole
  rw [if_neg (by decide), if_neg (by decide), if_neg (by decide), if_neg (by decide), if_neg (by decide), if_neg (by decide), if_neg (by decide), if_neg (by decide), if_neg (by decide)]
  simp only [jr_let]
theorem cw_1 (a b : Int64) (u : Int32) : fX8_compareWhole 1 a b u = (if a = b then (fX8_compareWhole_b225 1) else (fX8_compareWhole_b225 0)) := by
  unfold fX8_compareWhole
  rw [if_neg (by decide), if_pos rfl]
theorem cw_2 (a b : Int64) (u : Int32) : fX8_compareWhole 2 a b u = (if a = b then (fX8_compareWhole_b225 0) else (fX8_compareWhole_b225 1)) := by
  unfold fX8_compareWhole
  rw [if_neg (by decide), if_neg (by decide), if_pos rfl]
theorem cw_3 (a b : Int64) (u : Int32) : fX8_compareWhole 3 a b u = (if b ≤ a then (fX8_compareWhole_b225 0) else (fX8_compareWhole_b225 1)) := by
  unfold fX8_compareWhole
  rw [if_neg (by decide), if_neg (by decide), if_neg (by decide), if_pos rfl]
theorem cw_4 (a b : Int64) (u : Int32) : fX8_compareWhole 4 a b u = (if 0 ≤ u then (fX8_compareWhole_b225 0) else (fX8_compareWhole_b225 1)) := by
  unfold fX8_compareWhole
  rw [if_neg (by decide), if_neg (by decide), if_neg (by decide), if_neg (by decide), if_pos rfl]
theorem cw_5 (a b : Int64) (u : Int32) : fX8_compareWhole 5 a b u = (if a ≤ b then (fX8_compareWhole_b225 0) else (fX8_compareWhole_b225 1)) := by
  unfold fX8_compareWhole
  rw [if_neg (by decide), if_neg (by decide), if_neg (by decide), if_neg (by decide), if_neg (by decide), if_pos rfl]
theorem cw_6 (a b : Int64) (u : Int32) : fX8_compareWhole 6 a b u = (if u ≤ 0 then (fX8_compareWhole_b225 0) else (fX8_compareWhole_b225 1)) := by
  unfold fX8_compareWhole
  rw [if_neg (by decide), if_neg (by decide), if_neg (by decide), if_neg (by decide), if_neg (by decide), if_neg (by decide), if_pos rfl]
theorem cw_7 (a b : Int64) (u : Int32) : fX8_compareWhole 7 a b u = (if b < a then (fX8_compareWhole_b225 0) else (fX8_compareWhole_b225 1)) := by
  unfold fX8_compareWhole
  rw [if_neg (by decide), if_neg (by decide), if_neg (by decide), if_neg (by decide), if_neg (by decide), if_neg (by decide), if_neg (by decide), if_pos rfl]
theorem cw_8 (a b : Int64) (u : Int32) : fX8_compareWhole 8 a b u = (if 0 < u then (fX8_compareWhole_b225 0) else (fX8_compareWhole_b225 1)) := by
  unfold fX8_compareWhole
  rw [if_neg (by decide), if_neg (by decide), if_neg (by decide), if_neg (by decide), if_neg (by decide), if_neg (by decide), if_neg (by decide), if_neg (by decide), if_pos rfl]
theorem cw_9 (a b : Int64) (u : Int32) : fX8_compareWhole 9 a b u = (if a < b then (fX8_compareWhole_b225 0) else (fX8_compareWhole_b225 1)) := by
  unfold fX8_compareWhole
  rw [if_neg (by decide), if_neg (by decide), if_neg (by decide), if_neg (by decide), if_neg (by decide), if_neg (by decide), if_neg (by decide), if_neg (by decide), if_neg (by decide), if_pos rfl]
theorem cw_10 (a b : Int64) (u : Int32) : fX8_compareWhole 10 a b u = (if u < 0 then (fX8_compareWhole_b225 0) else (fX8_compareWhole_b225 1)) := by
  unfold fX8_compareWhole
  rw [if_neg (by decide), if_neg (by decide), if_neg (by decide), if_neg (by decide), if_neg (by decide), if_neg (by decide), if_neg (by decide), if_neg (by decide), if_neg (by decide), if_neg (by decide)]
theorem b225_1 : fX8_compareWhole_b225 1 = 1 := (rfl)
theorem b225_0 : fX8_compareWhole_b225 0 = 0 := (rfl)
theorem rw_t (h : pm_H) : ((some 1 : Option Int32).bind fun v50 => if v50 = 0 then (some (((0 : Int64), h))) else (some ((1, h)))) = some (1, h) := (rfl)
theorem rw_f (h : pm_H) : ((some 0 : Option Int32).bind fun v50 => if v50 = 0 then (some (((0 : Int64), h))) else (some ((1, h)))) = some (0, h) := (rfl)
theorem bo_t {c : Prop} [Decidable c] (h : c) : bI (decide c) = 1 := by rw [decide_eq_true h]; rfl
theorem bo_f {c : Prop} [Decidable c] (h : ¬ c) : bI (decide c) = 0 := by rw [decide_eq_false h]; rfl
theorem rkW_70 (h : pm_H) (x y : Int64) : fX16_reckons h 592 70 x y = (fX16_isWhole 0 x.toInt32.toInt64 y.toInt32.toInt64 x y).bind fun v50 => if v50 = 0 then (some ((0, h))) else (some ((1, h))) := by
  unfold fX16_reckons
  rw [show fX16_operandOf 70 = 0 by decide, jr_let, if_neg (by decide), if_neg (by decide), if_neg (by decide), if_pos rfl]
  unfold fX16_reckons_b49
  rw [if_pos rfl, if_pos rfl, show (70 - 70 : Int32) = 0 by decide]
theorem rkW_81 (h : pm_H) (x y : Int64) : fX16_reckons h 592 81 x y = (fX16_isWhole 0 x y x y).bind fun v50 => if v50 = 0 then (some ((0, h))) else (some ((1, h))) := by
  unfold fX16_reckons
  rw [show fX16_operandOf 81 = 1 by decide, jr_let, if_neg (by decide), if_neg (by decide), if_neg (by decide), if_neg (by decide)]
  unfold fX16_reckons_b49
  rw [if_neg (by decide), if_neg (by decide), show (81 - 81 : Int32) = 0 by decide]
theorem apW_70 (h : pm_H) (a : Nat) (x y : Int64) : fX8_apply h a 70 x y = if pm_kd h a = 8 then some (fX8_compareWhole 1 x.toInt32.toInt64 y.toInt32.toInt64 (fJ13_compare_74951 x y), pm_setI h a 0 0) else none := by
  unfold fX8_apply
  rw [if_neg (show ¬ (80 : Int32) ≤ 70 by decide), show (70 - 69 : Int32) = 1 by decide]
  simp only [jr_let]
theorem apW_81 (h : pm_H) (a : Nat) (x y : Int64) : fX8_apply h a 81 x y = if pm_kd h a = 8 then some (fX8_compareWhole 1 x y (fX8_compareWithoutSign x y), pm_setI h a 0 0) else none := by
  unfold fX8_apply
  rw [if_pos (show (80 : Int32) ≤ 81 by decide), if_neg (show ¬ (91 : Int32) ≤ 81 by decide), show (81 - 80 : Int32) = 1 by decide]
  simp only [jr_let]
theorem rkW_71 (h : pm_H) (x y : Int64) : fX16_reckons h 592 71 x y = (fX16_isWhole 1 x.toInt32.toInt64 y.toInt32.toInt64 x y).bind fun v50 => if v50 = 0 then (some ((0, h))) else (some ((1, h))) := by
  unfold fX16_reckons
  rw [show fX16_operandOf 71 = 0 by decide, jr_let, if_neg (by decide), if_neg (by decide), if_neg (by decide), if_pos rfl]
  unfold fX16_reckons_b49
  rw [if_pos rfl, if_pos rfl, show (71 - 70 : Int32) = 1 by decide]
theorem rkW_82 (h : pm_H) (x y : Int64) : fX16_reckons h 592 82 x y = (fX16_isWhole 1 x y x y).bind fun v50 => if v50 = 0 then (some ((0, h))) else (some ((1, h))) := by
  unfold fX16_reckons
  rw [show fX16_operandOf 82 = 1 by decide, jr_let, if_neg (by decide), if_neg (by decide), if_neg (by decide), if_neg (by decide)]
  unfold fX16_reckons_b49
  rw [if_neg (by decide), if_neg (by decide), show (82 - 81 : Int32) = 1 by decide]
theorem apW_71 (h : pm_H) (a : Nat) (x y : Int64) : fX8_apply h a 71 x y = if pm_kd h a = 8 then some (fX8_compareWhole 2 x.toInt32.toInt64 y.toInt32.toInt64 (fJ13_compare_74951 x y), pm_setI h a 0 0) else none := by
  unfold fX8_apply
  rw [if_neg (show ¬ (80 : Int32) ≤ 71 by decide), show (71 - 69 : Int32) = 2 by decide]
  simp only [jr_let]
theorem apW_82 (h : pm_H) (a : Nat) (x y : Int64) : fX8_apply h a 82 x y = if pm_kd h a = 8 then some (fX8_compareWhole 2 x y (fX8_compareWithoutSign x y), pm_setI h a 0 0) else none := by
  unfold fX8_apply
  rw [if_pos (show (80 : Int32) ≤ 82 by decide), if_neg (show ¬ (91 : Int32) ≤ 82 by decide), show (82 - 80 : Int32) = 2 by decide]
  simp only [jr_let]
theorem rkW_72 (h : pm_H) (x y : Int64) : fX16_reckons h 592 72 x y = (fX16_isWhole 2 x.toInt32.toInt64 y.toInt32.toInt64 x y).bind fun v50 => if v50 = 0 then (some ((0, h))) else (some ((1, h))) := by
  unfold fX16_reckons
  rw [show fX16_operandOf 72 = 0 by decide, jr_let, if_neg (by decide), if_neg (by decide), if_neg (by decide), if_pos rfl]
  unfold fX16_reckons_b49
  rw [if_pos rfl, if_pos rfl, show (72 - 70 : Int32) = 2 by decide]
theorem rkW_83 (h : pm_H) (x y : Int64) : fX16_reckons h 592 83 x y = (fX16_isWhole 2 x y x y).bind fun v50 => if v50 = 0 then (some ((0, h))) else (some ((1, h))) := by
  unfold fX16_reckons
  rw [show fX16_operandOf 83 = 1 by decide, jr_let, if_neg (by decide), if_neg (by decide), if_neg (by decide), if_neg (by decide)]
  unfold fX16_reckons_b49
  rw [if_neg (by decide), if_neg (by decide), show (83 - 81 : Int32) = 2 by decide]
theorem apW_72 (h : pm_H) (a : Nat) (x y : Int64) : fX8_apply h a 72 x y = if pm_kd h a = 8 then some (fX8_compareWhole 3 x.toInt32.toInt64 y.toInt32.toInt64 (fJ13_compare_74951 x y), pm_setI h a 0 0) else none := by
  unfold fX8_apply
  rw [if_neg (show ¬ (80 : Int32) ≤ 72 by decide), show (72 - 69 : Int32) = 3 by decide]
  simp only [jr_let]
theorem apW_83 (h : pm_H) (a : Nat) (x y : Int64) : fX8_apply h a 83 x y = if pm_kd h a = 8 then some (fX8_compareWhole 3 x y (fX8_compareWithoutSign x y), pm_setI h a 0 0) else none := by
  unfold fX8_apply
  rw [if_pos (show (80 : Int32) ≤ 83 by decide), if_neg (show ¬ (91 : Int32) ≤ 83 by decide), show (83 - 80 : Int32) = 3 by decide]
  simp only [jr_let]
theorem rkW_73 (h : pm_H) (x y : Int64) : fX16_reckons h 592 73 x y = (fX16_isWhole 3 x.toInt32.toInt64 y.toInt32.toInt64 x y).bind fun v50 => if v50 = 0 then (some ((0, h))) else (some ((1, h))) := by
  unfold fX16_reckons
  rw [show fX16_operandOf 73 = 0 by decide, jr_let, if_neg (by decide), if_neg (by decide), if_neg (by decide), if_pos rfl]
  unfold fX16_reckons_b49
  rw [if_pos rfl, if_pos rfl, show (73 - 70 : Int32) = 3 by decide]
theorem rkW_84 (h : pm_H) (x y : Int64) : fX16_reckons h 592 84 x y = (fX16_isWhole 3 x y x y).bind fun v50 => if v50 = 0 then (some ((0, h))) else (some ((1, h))) := by
  unfold fX16_reckons
  rw [show fX16_operandOf 84 = 1 by decide, jr_let, if_neg (by decide), if_neg (by decide), if_neg (by decide), if_neg (by decide)]
  unfold fX16_reckons_b49
  rw [if_neg (by decide), if_neg (by decide), show (84 - 81 : Int32) = 3 by decide]
theorem apW_73 (h : pm_H) (a : Nat) (x y : Int64) : fX8_apply h a 73 x y = if pm_kd h a = 8 then some (fX8_compareWhole 4 x.toInt32.toInt64 y.toInt32.toInt64 (fJ13_compare_74951 x y), pm_setI h a 0 0) else none := by
  unfold fX8_apply
  rw [if_neg (show ¬ (80 : Int32) ≤ 73 by decide), show (73 - 69 : Int32) = 4 by decide]
  simp only [jr_let]
theorem apW_84 (h : pm_H) (a : Nat) (x y : Int64) : fX8_apply h a 84 x y = if pm_kd h a = 8 then some (fX8_compareWhole 4 x y (fX8_compareWithoutSign x y), pm_setI h a 0 0) else none := by
  unfold fX8_apply
  rw [if_pos (show (80 : Int32) ≤ 84 by decide), if_neg (show ¬ (91 : Int32) ≤ 84 by decide), show (84 - 80 : Int32) = 4 by decide]
  simp only [jr_let]
theorem rkW_74 (h : pm_H) (x y : Int64) : fX16_reckons h 592 74 x y = (fX16_isWhole 4 x.toInt32.toInt64 y.toInt32.toInt64 x y).bind fun v50 => if v50 = 0 then (some ((0, h))) else (some ((1, h))) := by
  unfold fX16_reckons
  rw [show fX16_operandOf 74 = 0 by decide, jr_let, if_neg (by decide), if_neg (by decide), if_neg (by decide), if_pos rfl]
  unfold fX16_reckons_b49
  rw [if_pos rfl, if_pos rfl, show (74 - 70 : Int32) = 4 by decide]
theorem rkW_85 (h : pm_H) (x y : Int64) : fX16_reckons h 592 85 x y = (fX16_isWhole 4 x y x y).bind fun v50 => if v50 = 0 then (some ((0, h))) else (some ((1, h))) := by
  unfold fX16_reckons
  rw [show fX16_operandOf 85 = 1 by decide, jr_let, if_neg (by decide), if_neg (by decide), if_neg (by decide), if_neg (by decide)]
  unfold fX16_reckons_b49
  rw [if_neg (by decide), if_neg (by decide), show (85 - 81 : Int32) = 4 by decide]
theorem apW_74 (h : pm_H) (a : Nat) (x y : Int64) : fX8_apply h a 74 x y = if pm_kd h a = 8 then some (fX8_compareWhole 5 x.toInt32.toInt64 y.toInt32.toInt64 (fJ13_compare_74951 x y), pm_setI h a 0 0) else none := by
  unfold fX8_apply
  rw [if_neg (show ¬ (80 : Int32) ≤ 74 by decide), show (74 - 69 : Int32) = 5 by decide]
  simp only [jr_let]
theorem apW_85 (h : pm_H) (a : Nat) (x y : Int64) : fX8_apply h a 85 x y = if pm_kd h a = 8 then some (fX8_compareWhole 5 x y (fX8_compareWithoutSign x y), pm_setI h a 0 0) else none := by
  unfold fX8_apply
  rw [if_pos (show (80 : Int32) ≤ 85 by decide), if_neg (show ¬ (91 : Int32) ≤ 85 by decide), show (85 - 80 : Int32) = 5 by decide]
  simp only [jr_let]
theorem rkW_75 (h : pm_H) (x y : Int64) : fX16_reckons h 592 75 x y = (fX16_isWhole 5 x.toInt32.toInt64 y.toInt32.toInt64 x y).bind fun v50 => if v50 = 0 then (some ((0, h))) else (some ((1, h))) := by
  unfold fX16_reckons
  rw [show fX16_operandOf 75 = 0 by decide, jr_let, if_neg (by decide), if_neg (by decide), if_neg (by decide), if_pos rfl]
  unfold fX16_reckons_b49
  rw [if_pos rfl, if_pos rfl, show (75 - 70 : Int32) = 5 by decide]
theorem rkW_86 (h : pm_H) (x y : Int64) : fX16_reckons h 592 86 x y = (fX16_isWhole 5 x y x y).bind fun v50 => if v50 = 0 then (some ((0, h))) else (some ((1, h))) := by
  unfold fX16_reckons
  rw [show fX16_operandOf 86 = 1 by decide, jr_let, if_neg (by decide), if_neg (by decide), if_neg (by decide), if_neg (by decide)]
  unfold fX16_reckons_b49
  rw [if_neg (by decide), if_neg (by decide), show (86 - 81 : Int32) = 5 by decide]
theorem apW_75 (h : pm_H) (a : Nat) (x y : Int64) : fX8_apply h a 75 x y = if pm_kd h a = 8 then some (fX8_compareWhole 6 x.toInt32.toInt64 y.toInt32.toInt64 (fJ13_compare_74951 x y), pm_setI h a 0 0) else none := by
  unfold fX8_apply
  rw [if_neg (show ¬ (80 : Int32) ≤ 75 by decide), show (75 - 69 : Int32) = 6 by decide]
  simp only [jr_let]
theorem apW_86 (h : pm_H) (a : Nat) (x y : Int64) : fX8_apply h a 86 x y = if pm_kd h a = 8 then some (fX8_compareWhole 6 x y (fX8_compareWithoutSign x y), pm_setI h a 0 0) else none := by
  unfold fX8_apply
  rw [if_pos (show (80 : Int32) ≤ 86 by decide), if_neg (show ¬ (91 : Int32) ≤ 86 by decide), show (86 - 80 : Int32) = 6 by decide]
  simp only [jr_let]
theorem rkW_76 (h : pm_H) (x y : Int64) : fX16_reckons h 592 76 x y = (fX16_isWhole 6 x.toInt32.toInt64 y.toInt32.toInt64 x y).bind fun v50 => if v50 = 0 then (some ((0, h))) else (some ((1, h))) := by
  unfold fX16_reckons
  rw [show fX16_operandOf 76 = 0 by decide, jr_let, if_neg (by decide), if_neg (by decide), if_neg (by decide), if_pos rfl]
  unfold fX16_reckons_b49
  rw [if_pos rfl, if_pos rfl, show (76 - 70 : Int32) = 6 by decide]
theorem rkW_87 (h : pm_H) (x y : Int64) : fX16_reckons h 592 87 x y = (fX16_isWhole 6 x y x y).bind fun v50 => if v50 = 0 then (some ((0, h))) else (some ((1, h))) := by
  unfold fX16_reckons
  rw [show fX16_operandOf 87 = 1 by decide, jr_let, if_neg (by decide), if_neg (by decide), if_neg (by decide), if_neg (by decide)]
  unfold fX16_reckons_b49
  rw [if_neg (by decide), if_neg (by decide), show (87 - 81 : Int32) = 6 by decide]
theorem apW_76 (h : pm_H) (a : Nat) (x y : Int64) : fX8_apply h a 76 x y = if pm_kd h a = 8 then some (fX8_compareWhole 7 x.toInt32.toInt64 y.toInt32.toInt64 (fJ13_compare_74951 x y), pm_setI h a 0 0) else none := by
  unfold fX8_apply
  rw [if_neg (show ¬ (80 : Int32) ≤ 76 by decide), show (76 - 69 : Int32) = 7 by decide]
  simp only [jr_let]
theorem apW_87 (h : pm_H) (a : Nat) (x y : Int64) : fX8_apply h a 87 x y = if pm_kd h a = 8 then some (fX8_compareWhole 7 x y (fX8_compareWithoutSign x y), pm_setI h a 0 0) else none := by
  unfold fX8_apply
  rw [if_pos (show (80 : Int32) ≤ 87 by decide), if_neg (show ¬ (91 : Int32) ≤ 87 by decide), show (87 - 80 : Int32) = 7 by decide]
  simp only [jr_let]
theorem rkW_77 (h : pm_H) (x y : Int64) : fX16_reckons h 592 77 x y = (fX16_isWhole 7 x.toInt32.toInt64 y.toInt32.toInt64 x y).bind fun v50 => if v50 = 0 then (some ((0, h))) else (some ((1, h))) := by
  unfold fX16_reckons
  rw [show fX16_operandOf 77 = 0 by decide, jr_let, if_neg (by decide), if_neg (by decide), if_neg (by decide), if_pos rfl]
  unfold fX16_reckons_b49
  rw [if_pos rfl, if_pos rfl, show (77 - 70 : Int32) = 7 by decide]
theorem rkW_88 (h : pm_H) (x y : Int64) : fX16_reckons h 592 88 x y = (fX16_isWhole 7 x y x y).bind fun v50 => if v50 = 0 then (some ((0, h))) else (some ((1, h))) := by
  unfold fX16_reckons
  rw [show fX16_operandOf 88 = 1 by decide, jr_let, if_neg (by decide), if_neg (by decide), if_neg (by decide), if_neg (by decide)]
  unfold fX16_reckons_b49
  rw [if_neg (by decide), if_neg (by decide), show (88 - 81 : Int32) = 7 by decide]
theorem apW_77 (h : pm_H) (a : Nat) (x y : Int64) : fX8_apply h a 77 x y = if pm_kd h a = 8 then some (fX8_compareWhole 8 x.toInt32.toInt64 y.toInt32.toInt64 (fJ13_compare_74951 x y), pm_setI h a 0 0) else none := by
  unfold fX8_apply
  rw [if_neg (show ¬ (80 : Int32) ≤ 77 by decide), show (77 - 69 : Int32) = 8 by decide]
  simp only [jr_let]
theorem apW_88 (h : pm_H) (a : Nat) (x y : Int64) : fX8_apply h a 88 x y = if pm_kd h a = 8 then some (fX8_compareWhole 8 x y (fX8_compareWithoutSign x y), pm_setI h a 0 0) else none := by
  unfold fX8_apply
  rw [if_pos (show (80 : Int32) ≤ 88 by decide), if_neg (show ¬ (91 : Int32) ≤ 88 by decide), show (88 - 80 : Int32) = 8 by decide]
  simp only [jr_let]
theorem rkW_78 (h : pm_H) (x y : Int64) : fX16_reckons h 592 78 x y = (fX16_isWhole 8 x.toInt32.toInt64 y.toInt32.toInt64 x y).bind fun v50 => if v50 = 0 then (some ((0, h))) else (some ((1, h))) := by
  unfold fX16_reckons
  rw [show fX16_operandOf 78 = 0 by decide, jr_let, if_neg (by decide), if_neg (by decide), if_neg (by decide), if_pos rfl]
  unfold fX16_reckons_b49
  rw [if_pos rfl, if_pos rfl, show (78 - 70 : Int32) = 8 by decide]
theorem rkW_89 (h : pm_H) (x y : Int64) : fX16_reckons h 592 89 x y = (fX16_isWhole 8 x y x y).bind fun v50 => if v50 = 0 then (some ((0, h))) else (some ((1, h))) := by
  unfold fX16_reckons
  rw [show fX16_operandOf 89 = 1 by decide, jr_let, if_neg (by decide), if_neg (by decide), if_neg (by decide), if_neg (by decide)]
  unfold fX16_reckons_b49
  rw [if_neg (by decide), if_neg (by decide), show (89 - 81 : Int32) = 8 by decide]
theorem apW_78 (h : pm_H) (a : Nat) (x y : Int64) : fX8_apply h a 78 x y = if pm_kd h a = 8 then some (fX8_compareWhole 9 x.toInt32.toInt64 y.toInt32.toInt64 (fJ13_compare_74951 x y), pm_setI h a 0 0) else none := by
  unfold fX8_apply
  rw [if_neg (show ¬ (80 : Int32) ≤ 78 by decide), show (78 - 69 : Int32) = 9 by decide]
  simp only [jr_let]
theorem apW_89 (h : pm_H) (a : Nat) (x y : Int64) : fX8_apply h a 89 x y = if pm_kd h a = 8 then some (fX8_compareWhole 9 x y (fX8_compareWithoutSign x y), pm_setI h a 0 0) else none := by
  unfold fX8_apply
  rw [if_pos (show (80 : Int32) ≤ 89 by decide), if_neg (show ¬ (91 : Int32) ≤ 89 by decide), show (89 - 80 : Int32) = 9 by decide]
  simp only [jr_let]
theorem rkW_79 (h : pm_H) (x y : Int64) : fX16_reckons h 592 79 x y = (fX16_isWhole 9 x.toInt32.toInt64 y.toInt32.toInt64 x y).bind fun v50 => if v50 = 0 then (some ((0, h))) else (some ((1, h))) := by
  unfold fX16_reckons
  rw [show fX16_operandOf 79 = 0 by decide, jr_let, if_neg (by decide), if_neg (by decide), if_neg (by decide), if_pos rfl]
  unfold fX16_reckons_b49
  rw [if_pos rfl, if_pos rfl, show (79 - 70 : Int32) = 9 by decide]
theorem rkW_90 (h : pm_H) (x y : Int64) : fX16_reckons h 592 90 x y = (fX16_isWhole 9 x y x y).bind fun v50 => if v50 = 0 then (some ((0, h))) else (some ((1, h))) := by
  unfold fX16_reckons
  rw [show fX16_operandOf 90 = 1 by decide, jr_let, if_neg (by decide), if_neg (by decide), if_neg (by decide), if_neg (by decide)]
  unfold fX16_reckons_b49
  rw [if_neg (by decide), if_neg (by decide), show (90 - 81 : Int32) = 9 by decide]
theorem apW_79 (h : pm_H) (a : Nat) (x y : Int64) : fX8_apply h a 79 x y = if pm_kd h a = 8 then some (fX8_compareWhole 10 x.toInt32.toInt64 y.toInt32.toInt64 (fJ13_compare_74951 x y), pm_setI h a 0 0) else none := by
  unfold fX8_apply
  rw [if_neg (show ¬ (80 : Int32) ≤ 79 by decide), show (79 - 69 : Int32) = 10 by decide]
  simp only [jr_let]
theorem apW_90 (h : pm_H) (a : Nat) (x y : Int64) : fX8_apply h a 90 x y = if pm_kd h a = 8 then some (fX8_compareWhole 10 x y (fX8_compareWithoutSign x y), pm_setI h a 0 0) else none := by
  unfold fX8_apply
  rw [if_pos (show (80 : Int32) ≤ 90 by decide), if_neg (show ¬ (91 : Int32) ≤ 90 by decide), show (90 - 80 : Int32) = 10 by decide]
  simp only [jr_let]
theorem NQ_70 {X Y : Nat} (hX : X < 4294967296) (hY : Y < 4294967296) : NQ 70 32 (Int64.ofNat X) (Int64.ofNat Y) := by
  refine NQ_W (X = Y) (fun h O => ⟨h, ?_, nG_r h⟩) (fun h a k => ?_)
  · rw [rkW_70, iw_0]
    by_cases c : X = Y
    · rw [if_pos c, if_pos (show Int64.ofNat X = Int64.ofNat Y by rw [c]), rw_t]
    · rw [if_neg c, if_neg (show ¬ Int64.ofNat X = Int64.ofNat Y by rw [jl_eq (by omega) (by omega)]; exact c), rw_f]
  · rw [apW_70, if_pos k, cw_1]
    by_cases c : X = Y
    · rw [if_pos c, if_pos (show (Int64.ofNat X).toInt32.toInt64 = (Int64.ofNat Y).toInt32.toInt64 by rw [c]), b225_1]
    · rw [if_neg c, if_neg (show ¬ (Int64.ofNat X).toInt32.toInt64 = (Int64.ofNat Y).toInt32.toInt64 by rw [nu_eq hX hY]; exact c), b225_0]
theorem NQ_71 {X Y : Nat} (hX : X < 4294967296) (hY : Y < 4294967296) : NQ 71 32 (Int64.ofNat X) (Int64.ofNat Y) := by
  refine NQ_W (¬ X = Y) (fun h O => ⟨h, ?_, nG_r h⟩) (fun h a k => ?_)
  · rw [rkW_71, iw_1]
    by_cases c : X = Y
    · rw [if_neg (not_not_intro c), if_pos (show Int64.ofNat X = Int64.ofNat Y by rw [c]), rw_f]
    · rw [if_pos c, if_neg (show ¬ Int64.ofNat X = Int64.ofNat Y by rw [jl_eq (by omega) (by omega)]; exact c), rw_t]
  · rw [apW_71, if_pos k, cw_2]
    by_cases c : X = Y
    · rw [if_neg (not_not_intro c), if_pos (show (Int64.ofNat X).toInt32.toInt64 = (Int64.ofNat Y).toInt32.toInt64 by rw [c]), b225_0]
    · rw [if_pos c, if_neg (show ¬ (Int64.ofNat X).toInt32.toInt64 = (Int64.ofNat Y).toInt32.toInt64 by rw [nu_eq hX hY]; exact c), b225_1]
theorem NQ_72 {X Y : Nat} (hX : X < 4294967296) (hY : Y < 4294967296) : NQ 72 32 (Int64.ofNat X) (Int64.ofNat Y) := by
  refine NQ_W (¬ (Int64.ofNat Y).toInt32.toInt64 ≤ (Int64.ofNat X).toInt32.toInt64) (fun h O => ⟨h, ?_, nG_r h⟩) (fun h a k => ?_)
  · rw [rkW_72, iw_2]
    by_cases c : (Int64.ofNat Y).toInt32.toInt64 ≤ (Int64.ofNat X).toInt32.toInt64
    · rw [if_pos c, if_neg (not_not_intro c), rw_f]
    · rw [if_neg c, if_pos c, rw_t]
  · rw [apW_72, if_pos k, cw_3]
    by_cases c : (Int64.ofNat Y).toInt32.toInt64 ≤ (Int64.ofNat X).toInt32.toInt64
    · rw [if_pos c, if_neg (not_not_intro c), b225_0]
    · rw [if_neg c, if_pos c, b225_1]
theorem NQ_73 {X Y : Nat} (hX : X < 4294967296) (hY : Y < 4294967296) : NQ 73 32 (Int64.ofNat X) (Int64.ofNat Y) := by
  refine NQ_W (X < Y) (fun h O => ⟨h, ?_, nG_r h⟩) (fun h a k => ?_)
  · rw [rkW_73, iw_3]
    rw [jm_below (by omega) (by omega)]
    by_cases c : X < Y
    · rw [bo_t c, if_pos c, if_pos (by decide), rw_t]
    · rw [bo_f c, if_neg c, if_pos (by decide), rw_f]
  · rw [apW_73, if_pos k, cw_4]
    rw [cq_32 hX hY]
    by_cases c1 : Y ≤ X
    · by_cases c2 : X = Y
      · rw [if_pos c1, if_pos c2, if_pos (by decide), if_neg (show ¬ (X < Y) by omega), b225_0]
      · rw [if_pos c1, if_neg c2, if_pos (by decide), if_neg (show ¬ (X < Y) by omega), b225_0]
    · rw [if_neg c1, if_neg (by decide), if_pos (show (X < Y) by omega), b225_1]
theorem NQ_74 {X Y : Nat} (hX : X < 4294967296) (hY : Y < 4294967296) : NQ 74 32 (Int64.ofNat X) (Int64.ofNat Y) := by
  refine NQ_W (¬ (Int64.ofNat X).toInt32.toInt64 ≤ (Int64.ofNat Y).toInt32.toInt64) (fun h O => ⟨h, ?_, nG_r h⟩) (fun h a k => ?_)
  · rw [rkW_74, iw_4]
    by_cases c : (Int64.ofNat X).toInt32.toInt64 ≤ (Int64.ofNat Y).toInt32.toInt64
    · rw [if_pos c, if_neg (not_not_intro c), rw_f]
    · rw [if_neg c, if_pos c, rw_t]
  · rw [apW_74, if_pos k, cw_5]
    by_cases c : (Int64.ofNat X).toInt32.toInt64 ≤ (Int64.ofNat Y).toInt32.toInt64
    · rw [if_pos c, if_neg (not_not_intro c), b225_0]
    · rw [if_neg c, if_pos c, b225_1]
theorem NQ_75 {X Y : Nat} (hX : X < 4294967296) (hY : Y < 4294967296) : NQ 75 32 (Int64.ofNat X) (Int64.ofNat Y) := by
  refine NQ_W (Y < X) (fun h O => ⟨h, ?_, nG_r h⟩) (fun h a k => ?_)
  · rw [rkW_75, iw_5]
    rw [jm_below (by omega) (by omega)]
    by_cases c : Y < X
    · rw [bo_t c, if_pos c, if_pos (by decide), rw_t]
    · rw [bo_f c, if_neg c, if_pos (by decide), rw_f]
  · rw [apW_75, if_pos k, cw_6]
    rw [cq_32 hX hY]
    by_cases c1 : Y ≤ X
    · by_cases c2 : X = Y
      · rw [if_pos c1, if_pos c2, if_pos (by decide), if_neg (show ¬ (Y < X) by omega), b225_0]
      · rw [if_pos c1, if_neg c2, if_neg (by decide), if_pos (show (Y < X) by omega), b225_1]
    · rw [if_neg c1, if_pos (by decide), if_neg (show ¬ (Y < X) by omega), b225_0]
theorem NQ_76 {X Y : Nat} (hX : X < 4294967296) (hY : Y < 4294967296) : NQ 76 32 (Int64.ofNat X) (Int64.ofNat Y) := by
  refine NQ_W (¬ (Int64.ofNat Y).toInt32.toInt64 < (Int64.ofNat X).toInt32.toInt64) (fun h O => ⟨h, ?_, nG_r h⟩) (fun h a k => ?_)
  · rw [rkW_76, iw_6]
    by_cases c : (Int64.ofNat Y).toInt32.toInt64 < (Int64.ofNat X).toInt32.toInt64
    · rw [if_pos c, if_neg (not_not_intro c), rw_f]
    · rw [if_neg c, if_pos c, rw_t]
  · rw [apW_76, if_pos k, cw_7]
    by_cases c : (Int64.ofNat Y).toInt32.toInt64 < (Int64.ofNat X).toInt32.toInt64
    · rw [if_pos c, if_neg (not_not_intro c), b225_0]
    · rw [if_neg c, if_pos c, b225_1]
theorem NQ_77 {X Y : Nat} (hX : X < 4294967296) (hY : Y < 4294967296) : NQ 77 32 (Int64.ofNat X) (Int64.ofNat Y) := by
  refine NQ_W (¬ Y < X) (fun h O => ⟨h, ?_, nG_r h⟩) (fun h a k => ?_)
  · rw [rkW_77, iw_7]
    rw [jm_below (by omega) (by omega)]
    by_cases c : Y < X
    · rw [bo_t c, if_neg (not_not_intro c), if_neg (by decide), rw_f]
    · rw [bo_f c, if_pos c, if_pos rfl, rw_t]
  · rw [apW_77, if_pos k, cw_8]
    rw [cq_32 hX hY]
    by_cases c1 : Y ≤ X
    · by_cases c2 : X = Y
      · rw [if_pos c1, if_pos c2, if_neg (by decide), if_pos (show (¬ Y < X) by omega), b225_1]
      · rw [if_pos c1, if_neg c2, if_pos (by decide), if_neg (show ¬ (¬ Y < X) by omega), b225_0]
    · rw [if_neg c1, if_neg (by decide), if_pos (show (¬ Y < X) by omega), b225_1]
theorem NQ_78 {X Y : Nat} (hX : X < 4294967296) (hY : Y < 4294967296) : NQ 78 32 (Int64.ofNat X) (Int64.ofNat Y) := by
  refine NQ_W (¬ (Int64.ofNat X).toInt32.toInt64 < (Int64.ofNat Y).toInt32.toInt64) (fun h O => ⟨h, ?_, nG_r h⟩) (fun h a k => ?_)
  · rw [rkW_78, iw_8]
    by_cases c : (Int64.ofNat X).toInt32.toInt64 < (Int64.ofNat Y).toInt32.toInt64
    · rw [if_pos c, if_neg (not_not_intro c), rw_f]
    · rw [if_neg c, if_pos c, rw_t]
  · rw [apW_78, if_pos k, cw_9]
    by_cases c : (Int64.ofNat X).toInt32.toInt64 < (Int64.ofNat Y).toInt32.toInt64
    · rw [if_pos c, if_neg (not_not_intro c), b225_0]
    · rw [if_neg c, if_pos c, b225_1]
theorem NQ_79 {X Y : Nat} (hX : X < 4294967296) (hY : Y < 4294967296) : NQ 79 32 (Int64.ofNat X) (Int64.ofNat Y) := by
  refine NQ_W (¬ X < Y) (fun h O => ⟨h, ?_, nG_r h⟩) (fun h a k => ?_)
  · rw [rkW_79, iw_9]
    rw [jm_below (by omega) (by omega)]
    by_cases c : X < Y
    · rw [bo_t c, if_neg (not_not_intro c), if_neg (by decide), rw_f]
    · rw [bo_f c, if_pos c, if_pos rfl, rw_t]
  · rw [apW_79, if_pos k, cw_10]
    rw [cq_32 hX hY]
    by_cases c1 : Y ≤ X
    · by_cases c2 : X = Y
      · rw [if_pos c1, if_pos c2, if_neg (by decide), if_pos (show (¬ X < Y) by omega), b225_1]
      · rw [if_pos c1, if_neg c2, if_neg (by decide), if_pos (show (¬ X < Y) by omega), b225_1]
    · rw [if_neg c1, if_pos (by decide), if_neg (show ¬ (¬ X < Y) by omega), b225_0]
theorem NQ_81 {X Y : Nat} (hX : X < 18446744073709551616) (hY : Y < 18446744073709551616) : NQ 81 32 (Int64.ofNat X) (Int64.ofNat Y) := by
  refine NQ_W (X = Y) (fun h O => ⟨h, ?_, nG_r h⟩) (fun h a k => ?_)
  · rw [rkW_81, iw_0]
    by_cases c : X = Y
    · rw [if_pos c, if_pos (show Int64.ofNat X = Int64.ofNat Y by rw [c]), rw_t]
    · rw [if_neg c, if_neg (show ¬ Int64.ofNat X = Int64.ofNat Y by rw [jl_eq (by omega) (by omega)]; exact c), rw_f]
  · rw [apW_81, if_pos k, cw_1]
    by_cases c : X = Y
    · rw [if_pos c, if_pos (show (Int64.ofNat X) = (Int64.ofNat Y) by rw [c]), b225_1]
    · rw [if_neg c, if_neg (show ¬ (Int64.ofNat X) = (Int64.ofNat Y) by rw [jl_eq hX hY]; exact c), b225_0]
theorem NQ_82 {X Y : Nat} (hX : X < 18446744073709551616) (hY : Y < 18446744073709551616) : NQ 82 32 (Int64.ofNat X) (Int64.ofNat Y) := by
  refine NQ_W (¬ X = Y) (fun h O => ⟨h, ?_, nG_r h⟩) (fun h a k => ?_)
  · rw [rkW_82, iw_1]
    by_cases c : X = Y
    · rw [if_neg (not_not_intro c), if_pos (show Int64.ofNat X = Int64.ofNat Y by rw [c]), rw_f]
    · rw [if_pos c, if_neg (show ¬ Int64.ofNat X = Int64.ofNat Y by rw [jl_eq (by omega) (by omega)]; exact c), rw_t]
  · rw [apW_82, if_pos k, cw_2]
    by_cases c : X = Y
    · rw [if_neg (not_not_intro c), if_pos (show (Int64.ofNat X) = (Int64.ofNat Y) by rw [c]), b225_0]
    · rw [if_pos c, if_neg (show ¬ (Int64.ofNat X) = (Int64.ofNat Y) by rw [jl_eq hX hY]; exact c), b225_1]
theorem NQ_83 {X Y : Nat} (hX : X < 18446744073709551616) (hY : Y < 18446744073709551616) : NQ 83 32 (Int64.ofNat X) (Int64.ofNat Y) := by
  refine NQ_W (¬ (Int64.ofNat Y) ≤ (Int64.ofNat X)) (fun h O => ⟨h, ?_, nG_r h⟩) (fun h a k => ?_)
  · rw [rkW_83, iw_2]
    by_cases c : (Int64.ofNat Y) ≤ (Int64.ofNat X)
    · rw [if_pos c, if_neg (not_not_intro c), rw_f]
    · rw [if_neg c, if_pos c, rw_t]
  · rw [apW_83, if_pos k, cw_3]
    by_cases c : (Int64.ofNat Y) ≤ (Int64.ofNat X)
    · rw [if_pos c, if_neg (not_not_intro c), b225_0]
    · rw [if_neg c, if_pos c, b225_1]
theorem NQ_84 {X Y : Nat} (hX : X < 18446744073709551616) (hY : Y < 18446744073709551616) : NQ 84 32 (Int64.ofNat X) (Int64.ofNat Y) := by
  refine NQ_W (X < Y) (fun h O => ⟨h, ?_, nG_r h⟩) (fun h a k => ?_)
  · rw [rkW_84, iw_3]
    rw [jm_below (by omega) (by omega)]
    by_cases c : X < Y
    · rw [bo_t c, if_pos c, if_pos (by decide), rw_t]
    · rw [bo_f c, if_neg c, if_pos (by decide), rw_f]
  · rw [apW_84, if_pos k, cw_4]
    rw [cq_64 hX hY]
    by_cases c1 : Y ≤ X
    · by_cases c2 : X = Y
      · rw [if_pos c1, if_pos c2, if_pos (by decide), if_neg (show ¬ (X < Y) by omega), b225_0]
      · rw [if_pos c1, if_neg c2, if_pos (by decide), if_neg (show ¬ (X < Y) by omega), b225_0]
    · rw [if_neg c1, if_neg (by decide), if_pos (show (X < Y) by omega), b225_1]
theorem NQ_85 {X Y : Nat} (hX : X < 18446744073709551616) (hY : Y < 18446744073709551616) : NQ 85 32 (Int64.ofNat X) (Int64.ofNat Y) := by
  refine NQ_W (¬ (Int64.ofNat X) ≤ (Int64.ofNat Y)) (fun h O => ⟨h, ?_, nG_r h⟩) (fun h a k => ?_)
  · rw [rkW_85, iw_4]
    by_cases c : (Int64.ofNat X) ≤ (Int64.ofNat Y)
    · rw [if_pos c, if_neg (not_not_intro c), rw_f]
    · rw [if_neg c, if_pos c, rw_t]
  · rw [apW_85, if_pos k, cw_5]
    by_cases c : (Int64.ofNat X) ≤ (Int64.ofNat Y)
    · rw [if_pos c, if_neg (not_not_intro c), b225_0]
    · rw [if_neg c, if_pos c, b225_1]
theorem NQ_86 {X Y : Nat} (hX : X < 18446744073709551616) (hY : Y < 18446744073709551616) : NQ 86 32 (Int64.ofNat X) (Int64.ofNat Y) := by
  refine NQ_W (Y < X) (fun h O => ⟨h, ?_, nG_r h⟩) (fun h a k => ?_)
  · rw [rkW_86, iw_5]
    rw [jm_below (by omega) (by omega)]
    by_cases c : Y < X
    · rw [bo_t c, if_pos c, if_pos (by decide), rw_t]
    · rw [bo_f c, if_neg c, if_pos (by decide), rw_f]
  · rw [apW_86, if_pos k, cw_6]
    rw [cq_64 hX hY]
    by_cases c1 : Y ≤ X
    · by_cases c2 : X = Y
      · rw [if_pos c1, if_pos c2, if_pos (by decide), if_neg (show ¬ (Y < X) by omega), b225_0]
      · rw [if_pos c1, if_neg c2, if_neg (by decide), if_pos (show (Y < X) by omega), b225_1]
    · rw [if_neg c1, if_pos (by decide), if_neg (show ¬ (Y < X) by omega), b225_0]
theorem NQ_87 {X Y : Nat} (hX : X < 18446744073709551616) (hY : Y < 18446744073709551616) : NQ 87 32 (Int64.ofNat X) (Int64.ofNat Y) := by
  refine NQ_W (¬ (Int64.ofNat Y) < (Int64.ofNat X)) (fun h O => ⟨h, ?_, nG_r h⟩) (fun h a k => ?_)
  · rw [rkW_87, iw_6]
    by_cases c : (Int64.ofNat Y) < (Int64.ofNat X)
    · rw [if_pos c, if_neg (not_not_intro c), rw_f]
    · rw [if_neg c, if_pos c, rw_t]
  · rw [apW_87, if_pos k, cw_7]
    by_cases c : (Int64.ofNat Y) < (Int64.ofNat X)
    · rw [if_pos c, if_neg (not_not_intro c), b225_0]
    · rw [if_neg c, if_pos c, b225_1]
theorem NQ_88 {X Y : Nat} (hX : X < 18446744073709551616) (hY : Y < 18446744073709551616) : NQ 88 32 (Int64.ofNat X) (Int64.ofNat Y) := by
  refine NQ_W (¬ Y < X) (fun h O => ⟨h, ?_, nG_r h⟩) (fun h a k => ?_)
  · rw [rkW_88, iw_7]
    rw [jm_below (by omega) (by omega)]
    by_cases c : Y < X
    · rw [bo_t c, if_neg (not_not_intro c), if_neg (by decide), rw_f]
    · rw [bo_f c, if_pos c, if_pos rfl, rw_t]
  · rw [apW_88, if_pos k, cw_8]
    rw [cq_64 hX hY]
    by_cases c1 : Y ≤ X
    · by_cases c2 : X = Y
      · rw [if_pos c1, if_pos c2, if_neg (by decide), if_pos (show (¬ Y < X) by omega), b225_1]
      · rw [if_pos c1, if_neg c2, if_pos (by decide), if_neg (show ¬ (¬ Y < X) by omega), b225_0]
    · rw [if_neg c1, if_neg (by decide), if_pos (show (¬ Y < X) by omega), b225_1]
theorem NQ_89 {X Y : Nat} (hX : X < 18446744073709551616) (hY : Y < 18446744073709551616) : NQ 89 32 (Int64.ofNat X) (Int64.ofNat Y) := by
  refine NQ_W (¬ (Int64.ofNat X) < (Int64.ofNat Y)) (fun h O => ⟨h, ?_, nG_r h⟩) (fun h a k => ?_)
  · rw [rkW_89, iw_8]
    by_cases c : (Int64.ofNat X) < (Int64.ofNat Y)
    · rw [if_pos c, if_neg (not_not_intro c), rw_f]
    · rw [if_neg c, if_pos c, rw_t]
  · rw [apW_89, if_pos k, cw_9]
    by_cases c : (Int64.ofNat X) < (Int64.ofNat Y)
    · rw [if_pos c, if_neg (not_not_intro c), b225_0]
    · rw [if_neg c, if_pos c, b225_1]
theorem NQ_90 {X Y : Nat} (hX : X < 18446744073709551616) (hY : Y < 18446744073709551616) : NQ 90 32 (Int64.ofNat X) (Int64.ofNat Y) := by
  refine NQ_W (¬ X < Y) (fun h O => ⟨h, ?_, nG_r h⟩) (fun h a k => ?_)
  · rw [rkW_90, iw_9]
    rw [jm_below (by omega) (by omega)]
    by_cases c : X < Y
    · rw [bo_t c, if_neg (not_not_intro c), if_neg (by decide), rw_f]
    · rw [bo_f c, if_pos c, if_pos rfl, rw_t]
  · rw [apW_90, if_pos k, cw_10]
    rw [cq_64 hX hY]
    by_cases c1 : Y ≤ X
    · by_cases c2 : X = Y
      · rw [if_pos c1, if_pos c2, if_neg (by decide), if_pos (show (¬ X < Y) by omega), b225_1]
      · rw [if_pos c1, if_neg c2, if_neg (by decide), if_pos (show (¬ X < Y) by omega), b225_1]
    · rw [if_neg c1, if_pos (by decide), if_neg (show ¬ (¬ X < Y) by omega), b225_0]
theorem cw_0 (a b : Int64) (u : Int32) : fX8_compareWhole 0 a b u = (if a = 0 then (fX8_compareWhole_b225 1) else (fX8_compareWhole_b225 0)) := by
  unfold fX8_compareWhole
  rw [if_pos rfl]
theorem rkW_69 (h : pm_H) (x y : Int64) : fX16_reckons h 592 69 x y = if x = 0 then (some ((1, h))) else (some ((0, h))) := by
  unfold fX16_reckons
  rw [jr_let, if_pos rfl]
theorem apW_69 (h : pm_H) (a : Nat) (x y : Int64) : fX8_apply h a 69 x y = if pm_kd h a = 8 then some (fX8_compareWhole 0 x.toInt32.toInt64 y.toInt32.toInt64 (fJ13_compare_74951 x y), pm_setI h a 0 0) else none := by
  unfold fX8_apply
  rw [if_neg (show ¬ (80 : Int32) ≤ 69 by decide), show (69 - 69 : Int32) = 0 by decide]
  simp only [jr_let]
theorem NQ_69 {X : Nat} (y : Int64) (hX : X < 4294967296) : NQ 69 32 (Int64.ofNat X) y := by
  refine NQ_W (X = 0) (fun h O => ⟨h, ?_, nG_r h⟩) (fun h a k => ?_)
  · rw [rkW_69]
    by_cases c : X = 0
    · rw [if_pos c, if_pos (show Int64.ofNat X = 0 by rw [c]; rfl)]
    · rw [if_neg c, if_neg (show ¬ Int64.ofNat X = 0 by rw [jl_z0 (by omega)]; exact c)]
  · rw [apW_69, if_pos k, cw_0]
    by_cases c : X = 0
    · rw [if_pos c, if_pos (show (Int64.ofNat X).toInt32.toInt64 = 0 by rw [c]; rfl), b225_1]
    · rw [if_neg c, if_neg (show ¬ (Int64.ofNat X).toInt32.toInt64 = 0 by rw [j3_0, nu_z hX]; exact c), b225_0]
theorem rkW_80 (h : pm_H) (x y : Int64) : fX16_reckons h 592 80 x y = if x = 0 then (some ((1, h))) else (some ((0, h))) := by
  unfold fX16_reckons
  rw [jr_let, if_neg (by decide), if_pos rfl]
theorem apW_80 (h : pm_H) (a : Nat) (x y : Int64) : fX8_apply h a 80 x y = if pm_kd h a = 8 then some (fX8_compareWhole 0 x y (fX8_compareWithoutSign x y), pm_setI h a 0 0) else none := by
  unfold fX8_apply
  rw [if_pos (show (80 : Int32) ≤ 80 by decide), if_neg (show ¬ (91 : Int32) ≤ 80 by decide), show (80 - 80 : Int32) = 0 by decide]
  simp only [jr_let]
theorem NQ_80 {X : Nat} (y : Int64) (hX : X < 18446744073709551616) : NQ 80 32 (Int64.ofNat X) y := by
  refine NQ_W (X = 0) (fun h O => ⟨h, ?_, nG_r h⟩) (fun h a k => ?_)
  · rw [rkW_80]
    by_cases c : X = 0
    · rw [if_pos c, if_pos (show Int64.ofNat X = 0 by rw [c]; rfl)]
    · rw [if_neg c, if_neg (show ¬ Int64.ofNat X = 0 by rw [jl_z0 (by omega)]; exact c)]
  · rw [apW_80, if_pos k, cw_0]
    by_cases c : X = 0
    · rw [if_pos c, if_pos (show (Int64.ofNat X) = 0 by rw [c]; rfl), b225_1]
    · rw [if_neg c, if_neg (show ¬ (Int64.ofNat X) = 0 by rw [jl_z0 hX]; exact c), b225_0]
