/-! NUMBERS: every floating operator alike -/
theorem bN_v (g : Bool) : Int64.ofNat (bN g) = if g = true then 1 else 0 := by cases g <;> rfl
theorem rkS_91 (h : pm_H) (x y : Int64) : fX16_reckons h 592 91 x y = if pm_kd h 592 = 16 then (fX16_isReal h 592 0 2 x y).bind fun v33 => if v33.1 = 0 then (some ((0, v33.2))) else (some ((1, v33.2))) else none := by
  unfold fX16_reckons
  rw [show fX16_operandOf 91 = 2 by decide, jr_let, if_neg (by decide), if_neg (by decide), if_pos (show (91 : Int32) ≤ 91 by decide), if_neg (show ¬ (103 : Int32) ≤ 91 by decide), if_pos rfl, show (91 - 91 : Int32) = 0 by decide]
theorem apS_91 (h : pm_H) (a : Nat) (x y : Int64) : fX8_apply h a 91 x y = if pm_kd h a = 8 then some (fX8_compareFloating 2 0 x y, pm_setI h a 0 0) else none := by
  unfold fX8_apply
  rw [if_pos (show (80 : Int32) ≤ 91 by decide), if_pos (show (91 : Int32) ≤ 91 by decide), if_neg (show ¬ (97 : Int32) ≤ 91 by decide), show (91 - 91 : Int32) = 0 by decide]
  simp only [jr_let]
theorem NQ_91 {X Y : Nat} (hX : X < 4294967296) (hY : Y < 4294967296) : NQ 91 32 (Int64.ofNat X) (Int64.ofNat Y) := by
  refine NQ_W (cp2 0 X Y = true) (fun h O => ⟨_, ?_, nG_2 h (ng2 X) (so2 X) (wh2 X) (pw2 X) (ng2 Y) (so2 Y) (wh2 Y) (pw2 Y)⟩) (fun h a k => ?_)
  · have e : fX16_isReal h 592 0 2 (Int64.ofNat X) (Int64.ofNat Y) = _ := mz2 (k := 0) O hX hY (by decide)
    rw [rkS_91, if_pos O.1, e, jr_bs]
    cases cp2 0 X Y <;> rfl
  · have e : fX8_compareFloating 2 0 (Int64.ofNat X) (Int64.ofNat Y) = _ := cz2 (k := 0) hX hY (by decide)
    rw [apS_91, if_pos k, e, bN_v]
theorem rkS_92 (h : pm_H) (x y : Int64) : fX16_reckons h 592 92 x y = if pm_kd h 592 = 16 then (fX16_isReal h 592 1 2 x y).bind fun v33 => if v33.1 = 0 then (some ((0, v33.2))) else (some ((1, v33.2))) else none := by
  unfold fX16_reckons
  rw [show fX16_operandOf 92 = 2 by decide, jr_let, if_neg (by decide), if_neg (by decide), if_pos (show (91 : Int32) ≤ 92 by decide), if_neg (show ¬ (103 : Int32) ≤ 92 by decide), if_pos rfl, show (92 - 91 : Int32) = 1 by decide]
theorem apS_92 (h : pm_H) (a : Nat) (x y : Int64) : fX8_apply h a 92 x y = if pm_kd h a = 8 then some (fX8_compareFloating 2 1 x y, pm_setI h a 0 0) else none := by
  unfold fX8_apply
  rw [if_pos (show (80 : Int32) ≤ 92 by decide), if_pos (show (91 : Int32) ≤ 92 by decide), if_neg (show ¬ (97 : Int32) ≤ 92 by decide), show (92 - 91 : Int32) = 1 by decide]
  simp only [jr_let]
theorem NQ_92 {X Y : Nat} (hX : X < 4294967296) (hY : Y < 4294967296) : NQ 92 32 (Int64.ofNat X) (Int64.ofNat Y) := by
  refine NQ_W (cp2 1 X Y = true) (fun h O => ⟨_, ?_, nG_2 h (ng2 X) (so2 X) (wh2 X) (pw2 X) (ng2 Y) (so2 Y) (wh2 Y) (pw2 Y)⟩) (fun h a k => ?_)
  · have e : fX16_isReal h 592 1 2 (Int64.ofNat X) (Int64.ofNat Y) = _ := mz2 (k := 1) O hX hY (by decide)
    rw [rkS_92, if_pos O.1, e, jr_bs]
    cases cp2 1 X Y <;> rfl
  · have e : fX8_compareFloating 2 1 (Int64.ofNat X) (Int64.ofNat Y) = _ := cz2 (k := 1) hX hY (by decide)
    rw [apS_92, if_pos k, e, bN_v]
theorem rkS_93 (h : pm_H) (x y : Int64) : fX16_reckons h 592 93 x y = if pm_kd h 592 = 16 then (fX16_isReal h 592 2 2 x y).bind fun v33 => if v33.1 = 0 then (some ((0, v33.2))) else (some ((1, v33.2))) else none := by
  unfold fX16_reckons
  rw [show fX16_operandOf 93 = 2 by decide, jr_let, if_neg (by decide), if_neg (by decide), if_pos (show (91 : Int32) ≤ 93 by decide), if_neg (show ¬ (103 : Int32) ≤ 93 by decide), if_pos rfl, show (93 - 91 : Int32) = 2 by decide]
theorem apS_93 (h : pm_H) (a : Nat) (x y : Int64) : fX8_apply h a 93 x y = if pm_kd h a = 8 then some (fX8_compareFloating 2 2 x y, pm_setI h a 0 0) else none := by
  unfold fX8_apply
  rw [if_pos (show (80 : Int32) ≤ 93 by decide), if_pos (show (91 : Int32) ≤ 93 by decide), if_neg (show ¬ (97 : Int32) ≤ 93 by decide), show (93 - 91 : Int32) = 2 by decide]
  simp only [jr_let]
theorem NQ_93 {X Y : Nat} (hX : X < 4294967296) (hY : Y < 4294967296) : NQ 93 32 (Int64.ofNat X) (Int64.ofNat Y) := by
  refine NQ_W (cp2 2 X Y = true) (fun h O => ⟨_, ?_, nG_2 h (ng2 X) (so2 X) (wh2 X) (pw2 X) (ng2 Y) (so2 Y) (wh2 Y) (pw2 Y)⟩) (fun h a k => ?_)
  · have e : fX16_isReal h 592 2 2 (Int64.ofNat X) (Int64.ofNat Y) = _ := mz2 (k := 2) O hX hY (by decide)
    rw [rkS_93, if_pos O.1, e, jr_bs]
    cases cp2 2 X Y <;> rfl
  · have e : fX8_compareFloating 2 2 (Int64.ofNat X) (Int64.ofNat Y) = _ := cz2 (k := 2) hX hY (by decide)
    rw [apS_93, if_pos k, e, bN_v]
theorem rkS_94 (h : pm_H) (x y : Int64) : fX16_reckons h 592 94 x y = if pm_kd h 592 = 16 then (fX16_isReal h 592 3 2 x y).bind fun v33 => if v33.1 = 0 then (some ((0, v33.2))) else (some ((1, v33.2))) else none := by
  unfold fX16_reckons
  rw [show fX16_operandOf 94 = 2 by decide, jr_let, if_neg (by decide), if_neg (by decide), if_pos (show (91 : Int32) ≤ 94 by decide), if_neg (show ¬ (103 : Int32) ≤ 94 by decide), if_pos rfl, show (94 - 91 : Int32) = 3 by decide]
theorem apS_94 (h : pm_H) (a : Nat) (x y : Int64) : fX8_apply h a 94 x y = if pm_kd h a = 8 then some (fX8_compareFloating 2 3 x y, pm_setI h a 0 0) else none := by
  unfold fX8_apply
  rw [if_pos (show (80 : Int32) ≤ 94 by decide), if_pos (show (91 : Int32) ≤ 94 by decide), if_neg (show ¬ (97 : Int32) ≤ 94 by decide), show (94 - 91 : Int32) = 3 by decide]
  simp only [jr_let]
theorem NQ_94 {X Y : Nat} (hX : X < 4294967296) (hY : Y < 4294967296) : NQ 94 32 (Int64.ofNat X) (Int64.ofNat Y) := by
  refine NQ_W (cp2 3 X Y = true) (fun h O => ⟨_, ?_, nG_2 h (ng2 X) (so2 X) (wh2 X) (pw2 X) (ng2 Y) (so2 Y) (wh2 Y) (pw2 Y)⟩) (fun h a k => ?_)
  · have e : fX16_isReal h 592 3 2 (Int64.ofNat X) (Int64.ofNat Y) = _ := mz2 (k := 3) O hX hY (by decide)
    rw [rkS_94, if_pos O.1, e, jr_bs]
    cases cp2 3 X Y <;> rfl
  · have e : fX8_compareFloating 2 3 (Int64.ofNat X) (Int64.ofNat Y) = _ := cz2 (k := 3) hX hY (by decide)
    rw [apS_94, if_pos k, e, bN_v]
theorem rkS_95 (h : pm_H) (x y : Int64) : fX16_reckons h 592 95 x y = if pm_kd h 592 = 16 then (fX16_isReal h 592 4 2 x y).bind fun v33 => if v33.1 = 0 then (some ((0, v33.2))) else (some ((1, v33.2))) else none := by
  unfold fX16_reckons
  rw [show fX16_operandOf 95 = 2 by decide, jr_let, if_neg (by decide), if_neg (by decide), if_pos (show (91 : Int32) ≤ 95 by decide), if_neg (show ¬ (103 : Int32) ≤ 95 by decide), if_pos rfl, show (95 - 91 : Int32) = 4 by decide]
theorem apS_95 (h : pm_H) (a : Nat) (x y : Int64) : fX8_apply h a 95 x y = if pm_kd h a = 8 then some (fX8_compareFloating 2 4 x y, pm_setI h a 0 0) else none := by
  unfold fX8_apply
  rw [if_pos (show (80 : Int32) ≤ 95 by decide), if_pos (show (91 : Int32) ≤ 95 by decide), if_neg (show ¬ (97 : Int32) ≤ 95 by decide), show (95 - 91 : Int32) = 4 by decide]
  simp only [jr_let]
theorem NQ_95 {X Y : Nat} (hX : X < 4294967296) (hY : Y < 4294967296) : NQ 95 32 (Int64.ofNat X) (Int64.ofNat Y) := by
  refine NQ_W (cp2 4 X Y = true) (fun h O => ⟨_, ?_, nG_2 h (ng2 X) (so2 X) (wh2 X) (pw2 X) (ng2 Y) (so2 Y) (wh2 Y) (pw2 Y)⟩) (fun h a k => ?_)
  · have e : fX16_isReal h 592 4 2 (Int64.ofNat X) (Int64.ofNat Y) = _ := mz2 (k := 4) O hX hY (by decide)
    rw [rkS_95, if_pos O.1, e, jr_bs]
    cases cp2 4 X Y <;> rfl
  · have e : fX8_compareFloating 2 4 (Int64.ofNat X) (Int64.ofNat Y) = _ := cz2 (k := 4) hX hY (by decide)
    rw [apS_95, if_pos k, e, bN_v]
theorem rkS_96 (h : pm_H) (x y : Int64) : fX16_reckons h 592 96 x y = if pm_kd h 592 = 16 then (fX16_isReal h 592 5 2 x y).bind fun v33 => if v33.1 = 0 then (some ((0, v33.2))) else (some ((1, v33.2))) else none := by
  unfold fX16_reckons
  rw [show fX16_operandOf 96 = 2 by decide, jr_let, if_neg (by decide), if_neg (by decide), if_pos (show (91 : Int32) ≤ 96 by decide), if_neg (show ¬ (103 : Int32) ≤ 96 by decide), if_pos rfl, show (96 - 91 : Int32) = 5 by decide]
theorem apS_96 (h : pm_H) (a : Nat) (x y : Int64) : fX8_apply h a 96 x y = if pm_kd h a = 8 then some (fX8_compareFloating 2 5 x y, pm_setI h a 0 0) else none := by
  unfold fX8_apply
  rw [if_pos (show (80 : Int32) ≤ 96 by decide), if_pos (show (91 : Int32) ≤ 96 by decide), if_neg (show ¬ (97 : Int32) ≤ 96 by decide), show (96 - 91 : Int32) = 5 by decide]
  simp only [jr_let]
theorem NQ_96 {X Y : Nat} (hX : X < 4294967296) (hY : Y < 4294967296) : NQ 96 32 (Int64.ofNat X) (Int64.ofNat Y) := by
  refine NQ_W (cp2 5 X Y = true) (fun h O => ⟨_, ?_, nG_2 h (ng2 X) (so2 X) (wh2 X) (pw2 X) (ng2 Y) (so2 Y) (wh2 Y) (pw2 Y)⟩) (fun h a k => ?_)
  · have e : fX16_isReal h 592 5 2 (Int64.ofNat X) (Int64.ofNat Y) = _ := mz2 (k := 5) O hX hY (by decide)
    rw [rkS_96, if_pos O.1, e, jr_bs]
    cases cp2 5 X Y <;> rfl
  · have e : fX8_compareFloating 2 5 (Int64.ofNat X) (Int64.ofNat Y) = _ := cz2 (k := 5) hX hY (by decide)
    rw [apS_96, if_pos k, e, bN_v]
theorem rkS_97 (h : pm_H) (x y : Int64) : fX16_reckons h 592 97 x y = if pm_kd h 592 = 16 then (fX16_isReal h 592 0 3 x y).bind fun v33 => if v33.1 = 0 then (some ((0, v33.2))) else (some ((1, v33.2))) else none := by
  unfold fX16_reckons
  rw [show fX16_operandOf 97 = 3 by decide, jr_let, if_neg (by decide), if_neg (by decide), if_pos (show (91 : Int32) ≤ 97 by decide), if_neg (show ¬ (103 : Int32) ≤ 97 by decide), if_neg (by decide), show (97 - 97 : Int32) = 0 by decide]
theorem apS_97 (h : pm_H) (a : Nat) (x y : Int64) : fX8_apply h a 97 x y = if pm_kd h a = 8 then some (fX8_compareFloating 3 0 x y, pm_setI h a 0 0) else none := by
  unfold fX8_apply
  rw [if_pos (show (80 : Int32) ≤ 97 by decide), if_pos (show (91 : Int32) ≤ 97 by decide), if_pos (show (97 : Int32) ≤ 97 by decide), if_neg (show ¬ (103 : Int32) ≤ 97 by decide), show (97 - 97 : Int32) = 0 by decide]
  simp only [jr_let]
theorem NQ_97 {X Y : Nat} (hX : X < 18446744073709551616) (hY : Y < 18446744073709551616) : NQ 97 32 (Int64.ofNat X) (Int64.ofNat Y) := by
  refine NQ_W (cp3 0 X Y = true) (fun h O => ⟨_, ?_, nG_2 h (ng3 X) (so3 X) (wh3 X) (pw3 X) (ng3 Y) (so3 Y) (wh3 Y) (pw3 Y)⟩) (fun h a k => ?_)
  · have e : fX16_isReal h 592 0 3 (Int64.ofNat X) (Int64.ofNat Y) = _ := mz3 (k := 0) O hX hY (by decide)
    rw [rkS_97, if_pos O.1, e, jr_bs]
    cases cp3 0 X Y <;> rfl
  · have e : fX8_compareFloating 3 0 (Int64.ofNat X) (Int64.ofNat Y) = _ := cz3 (k := 0) hX hY (by decide)
    rw [apS_97, if_pos k, e, bN_v]
theorem rkS_98 (h : pm_H) (x y : Int64) : fX16_reckons h 592 98 x y = if pm_kd h 592 = 16 then (fX16_isReal h 592 1 3 x y).bind fun v33 => if v33.1 = 0 then (some ((0, v33.2))) else (some ((1, v33.2))) else none := by
  unfold fX16_reckons
  rw [show fX16_operandOf 98 = 3 by decide, jr_let, if_neg (by decide), if_neg (by decide), if_pos (show (91 : Int32) ≤ 98 by decide), if_neg (show ¬ (103 : Int32) ≤ 98 by decide), if_neg (by decide), show (98 - 97 : Int32) = 1 by decide]
theorem apS_98 (h : pm_H) (a : Nat) (x y : Int64) : fX8_apply h a 98 x y = if pm_kd h a = 8 then some (fX8_compareFloating 3 1 x y, pm_setI h a 0 0) else none := by
  unfold fX8_apply
  rw [if_pos (show (80 : Int32) ≤ 98 by decide), if_pos (show (91 : Int32) ≤ 98 by decide), if_pos (show (97 : Int32) ≤ 98 by decide), if_neg (show ¬ (103 : Int32) ≤ 98 by decide), show (98 - 97 : Int32) = 1 by decide]
  simp only [jr_let]
theorem NQ_98 {X Y : Nat} (hX : X < 18446744073709551616) (hY : Y < 18446744073709551616) : NQ 98 32 (Int64.ofNat X) (Int64.ofNat Y) := by
  refine NQ_W (cp3 1 X Y = true) (fun h O => ⟨_, ?_, nG_2 h (ng3 X) (so3 X) (wh3 X) (pw3 X) (ng3 Y) (so3 Y) (wh3 Y) (pw3 Y)⟩) (fun h a k => ?_)
  · have e : fX16_isReal h 592 1 3 (Int64.ofNat X) (Int64.ofNat Y) = _ := mz3 (k := 1) O hX hY (by decide)
    rw [rkS_98, if_pos O.1, e, jr_bs]
    cases cp3 1 X Y <;> rfl
  · have e : fX8_compareFloating 3 1 (Int64.ofNat X) (Int64.ofNat Y) = _ := cz3 (k := 1) hX hY (by decide)
    rw [apS_98, if_pos k, e, bN_v]
theorem rkS_99 (h : pm_H) (x y : Int64) : fX16_reckons h 592 99 x y = if pm_kd h 592 = 16 then (fX16_isReal h 592 2 3 x y).bind fun v33 => if v33.1 = 0 then (some ((0, v33.2))) else (some ((1, v33.2))) else none := by
  unfold fX16_reckons
  rw [show fX16_operandOf 99 = 3 by decide, jr_let, if_neg (by decide), if_neg (by decide), if_pos (show (91 : Int32) ≤ 99 by decide), if_neg (show ¬ (103 : Int32) ≤ 99 by decide), if_neg (by decide), show (99 - 97 : Int32) = 2 by decide]
theorem apS_99 (h : pm_H) (a : Nat) (x y : Int64) : fX8_apply h a 99 x y = if pm_kd h a = 8 then some (fX8_compareFloating 3 2 x y, pm_setI h a 0 0) else none := by
  unfold fX8_apply
  rw [if_pos (show (80 : Int32) ≤ 99 by decide), if_pos (show (91 : Int32) ≤ 99 by decide), if_pos (show (97 : Int32) ≤ 99 by decide), if_neg (show ¬ (103 : Int32) ≤ 99 by decide), show (99 - 97 : Int32) = 2 by decide]
  simp only [jr_let]
theorem NQ_99 {X Y : Nat} (hX : X < 18446744073709551616) (hY : Y < 18446744073709551616) : NQ 99 32 (Int64.ofNat X) (Int64.ofNat Y) := by
  refine NQ_W (cp3 2 X Y = true) (fun h O => ⟨_, ?_, nG_2 h (ng3 X) (so3 X) (wh3 X) (pw3 X) (ng3 Y) (so3 Y) (wh3 Y) (pw3 Y)⟩) (fun h a k => ?_)
  · have e : fX16_isReal h 592 2 3 (Int64.ofNat X) (Int64.ofNat Y) = _ := mz3 (k := 2) O hX hY (by decide)
    rw [rkS_99, if_pos O.1, e, jr_bs]
    cases cp3 2 X Y <;> rfl
  · have e : fX8_compareFloating 3 2 (Int64.ofNat X) (Int64.ofNat Y) = _ := cz3 (k := 2) hX hY (by decide)
    rw [apS_99, if_pos k, e, bN_v]
theorem rkS_100 (h : pm_H) (x y : Int64) : fX16_reckons h 592 100 x y = if pm_kd h 592 = 16 then (fX16_isReal h 592 3 3 x y).bind fun v33 => if v33.1 = 0 then (some ((0, v33.2))) else (some ((1, v33.2))) else none := by
  unfold fX16_reckons
  rw [show fX16_operandOf 100 = 3 by decide, jr_let, if_neg (by decide), if_neg (by decide), if_pos (show (91 : Int32) ≤ 100 by decide), if_neg (show ¬ (103 : Int32) ≤ 100 by decide), if_neg (by decide), show (100 - 97 : Int32) = 3 by decide]
theorem apS_100 (h : pm_H) (a : Nat) (x y : Int64) : fX8_apply h a 100 x y = if pm_kd h a = 8 then some (fX8_compareFloating 3 3 x y, pm_setI h a 0 0) else none := by
  unfold fX8_apply
  rw [if_pos (show (80 : Int32) ≤ 100 by decide), if_pos (show (91 : Int32) ≤ 100 by decide), if_pos (show (97 : Int32) ≤ 100 by decide), if_neg (show ¬ (103 : Int32) ≤ 100 by decide), show (100 - 97 : Int32) = 3 by decide]
  simp only [jr_let]
theorem NQ_100 {X Y : Nat} (hX : X < 18446744073709551616) (hY : Y < 18446744073709551616) : NQ 100 32 (Int64.ofNat X) (Int64.ofNat Y) := by
  refine NQ_W (cp3 3 X Y = true) (fun h O => ⟨_, ?_, nG_2 h (ng3 X) (so3 X) (wh3 X) (pw3 X) (ng3 Y) (so3 Y) (wh3 Y) (pw3 Y)⟩) (fun h a k => ?_)
  · have e : fX16_isReal h 592 3 3 (Int64.ofNat X) (Int64.ofNat Y) = _ := mz3 (k := 3) O hX hY (by decide)
    rw [rkS_100, if_pos O.1, e, jr_bs]
    cases cp3 3 X Y <;> rfl
  · have e : fX8_compareFloating 3 3 (Int64.ofNat X) (Int64.ofNat Y) = _ := cz3 (k := 3) hX hY (by decide)
    rw [apS_100, if_pos k, e, bN_v]
theorem rkS_101 (h : pm_H) (x y : Int64) : fX16_reckons h 592 101 x y = if pm_kd h 592 = 16 then (fX16_isReal h 592 4 3 x y).bind fun v33 => if v33.1 = 0 then (some ((0, v33.2))) else (some ((1, v33.2))) else none := by
  unfold fX16_reckons
  rw [show fX16_operandOf 101 = 3 by decide, jr_let, if_neg (by decide), if_neg (by decide), if_pos (show (91 : Int32) ≤ 101 by decide), if_neg (show ¬ (103 : Int32) ≤ 101 by decide), if_neg (by decide), show (101 - 97 : Int32) = 4 by decide]
theorem apS_101 (h : pm_H) (a : Nat) (x y : Int64) : fX8_apply h a 101 x y = if pm_kd h a = 8 then some (fX8_compareFloating 3 4 x y, pm_setI h a 0 0) else none := by
  unfold fX8_apply
  rw [if_pos (show (80 : Int32) ≤ 101 by decide), if_pos (show (91 : Int32) ≤ 101 by decide), if_pos (show (97 : Int32) ≤ 101 by decide), if_neg (show ¬ (103 : Int32) ≤ 101 by decide), show (101 - 97 : Int32) = 4 by decide]
  simp only [jr_let]
theorem NQ_101 {X Y : Nat} (hX : X < 18446744073709551616) (hY : Y < 18446744073709551616) : NQ 101 32 (Int64.ofNat X) (Int64.ofNat Y) := by
  refine NQ_W (cp3 4 X Y = true) (fun h O => ⟨_, ?_, nG_2 h (ng3 X) (so3 X) (wh3 X) (pw3 X) (ng3 Y) (so3 Y) (wh3 Y) (pw3 Y)⟩) (fun h a k => ?_)
  · have e : fX16_isReal h 592 4 3 (Int64.ofNat X) (Int64.ofNat Y) = _ := mz3 (k := 4) O hX hY (by decide)
    rw [rkS_101, if_pos O.1, e, jr_bs]
    cases cp3 4 X Y <;> rfl
  · have e : fX8_compareFloating 3 4 (Int64.ofNat X) (Int64.ofNat Y) = _ := cz3 (k := 4) hX hY (by decide)
    rw [apS_101, if_pos k, e, bN_v]
theorem rkS_102 (h : pm_H) (x y : Int64) : fX16_reckons h 592 102 x y = if pm_kd h 592 = 16 then (fX16_isReal h 592 5 3 x y).bind fun v33 => if v33.1 = 0 then (some ((0, v33.2))) else (some ((1, v33.2))) else none := by
  unfold fX16_reckons
  rw [show fX16_operandOf 102 = 3 by decide, jr_let, if_neg (by decide), if_neg (by decide), if_pos (show (91 : Int32) ≤ 102 by decide), if_neg (show ¬ (103 : Int32) ≤ 102 by decide), if_neg (by decide), show (102 - 97 : Int32) = 5 by decide]
theorem apS_102 (h : pm_H) (a : Nat) (x y : Int64) : fX8_apply h a 102 x y = if pm_kd h a = 8 then some (fX8_compareFloating 3 5 x y, pm_setI h a 0 0) else none := by
  unfold fX8_apply
  rw [if_pos (show (80 : Int32) ≤ 102 by decide), if_pos (show (91 : Int32) ≤ 102 by decide), if_pos (show (97 : Int32) ≤ 102 by decide), if_neg (show ¬ (103 : Int32) ≤ 102 by decide), show (102 - 97 : Int32) = 5 by decide]
  simp only [jr_let]
theorem NQ_102 {X Y : Nat} (hX : X < 18446744073709551616) (hY : Y < 18446744073709551616) : NQ 102 32 (Int64.ofNat X) (Int64.ofNat Y) := by
  refine NQ_W (cp3 5 X Y = true) (fun h O => ⟨_, ?_, nG_2 h (ng3 X) (so3 X) (wh3 X) (pw3 X) (ng3 Y) (so3 Y) (wh3 Y) (pw3 Y)⟩) (fun h a k => ?_)
  · have e : fX16_isReal h 592 5 3 (Int64.ofNat X) (Int64.ofNat Y) = _ := mz3 (k := 5) O hX hY (by decide)
    rw [rkS_102, if_pos O.1, e, jr_bs]
    cases cp3 5 X Y <;> rfl
  · have e : fX8_compareFloating 3 5 (Int64.ofNat X) (Int64.ofNat Y) = _ := cz3 (k := 5) hX hY (by decide)
    rw [apS_102, if_pos k, e, bN_v]
theorem rkS_139 (h : pm_H) (x y : Int64) : fX16_reckons h 592 139 x y = if pm_kd h 592 = 16 then (fX16_real h 592 0 2 x y).bind fun v18 => some ((v18.1, v18.2)) else none := by
  unfold fX16_reckons
  rw [show fX16_operandOf 139 = 2 by decide, jr_let, if_neg (by decide), if_neg (by decide), if_pos (show (91 : Int32) ≤ 139 by decide), if_pos (show (103 : Int32) ≤ 139 by decide), if_pos (show (139 : Int32) ≤ 139 by decide), if_neg (show ¬ (167 : Int32) ≤ 139 by decide), if_pos rfl, show (139 - 139 : Int32) = 0 by decide]
theorem apS_139 (h : pm_H) (a : Nat) (x y : Int64) : fX8_apply h a 139 x y = if pm_kd h a = 8 then (fX8_floating 2 0 x y).bind fun v18 => some ((v18, pm_setI h a 0 0)) else none := by
  unfold fX8_apply
  rw [if_pos (show (80 : Int32) ≤ 139 by decide), if_pos (show (91 : Int32) ≤ 139 by decide), if_pos (show (97 : Int32) ≤ 139 by decide), if_pos (show (103 : Int32) ≤ 139 by decide), if_pos (show (121 : Int32) ≤ 139 by decide), if_pos (show (139 : Int32) ≤ 139 by decide), if_neg (show ¬ (153 : Int32) ≤ 139 by decide), show (139 - 139 : Int32) = 0 by decide]
theorem NQ_139 {X Y : Nat} (hX : X < 4294967296) (hY : Y < 4294967296) : NQ 139 32 (Int64.ofNat X) (Int64.ofNat Y) := by
  refine NQ_0 (v := fo2 0 X Y) (fo2_lt 0 hX hY) (fun h O => ?_) (fun h a k => ?_)
  · obtain ⟨h', e, g⟩ := mR2_0 O hX hY
    refine ⟨h', ?_, g⟩
    rw [rkS_139, if_pos O.1, e, jr_bs]
  · rw [apS_139, if_pos k, cR2_0 hX hY, jr_bs]
theorem rkS_140 (h : pm_H) (x y : Int64) : fX16_reckons h 592 140 x y = if pm_kd h 592 = 16 then (fX16_real h 592 1 2 x y).bind fun v18 => some ((v18.1, v18.2)) else none := by
  unfold fX16_reckons
  rw [show fX16_operandOf 140 = 2 by decide, jr_let, if_neg (by decide), if_neg (by decide), if_pos (show (91 : Int32) ≤ 140 by decide), if_pos (show (103 : Int32) ≤ 140 by decide), if_pos (show (139 : Int32) ≤ 140 by decide), if_neg (show ¬ (167 : Int32) ≤ 140 by decide), if_pos rfl, show (140 - 139 : Int32) = 1 by decide]
theorem apS_140 (h : pm_H) (a : Nat) (x y : Int64) : fX8_apply h a 140 x y = if pm_kd h a = 8 then (fX8_floating 2 1 x y).bind fun v18 => some ((v18, pm_setI h a 0 0)) else none := by
  unfold fX8_apply
  rw [if_pos (show (80 : Int32) ≤ 140 by decide), if_pos (show (91 : Int32) ≤ 140 by decide), if_pos (show (97 : Int32) ≤ 140 by decide), if_pos (show (103 : Int32) ≤ 140 by decide), if_pos (show (121 : Int32) ≤ 140 by decide), if_pos (show (139 : Int32) ≤ 140 by decide), if_neg (show ¬ (153 : Int32) ≤ 140 by decide), show (140 - 139 : Int32) = 1 by decide]
theorem NQ_140 {X Y : Nat} (hX : X < 4294967296) (hY : Y < 4294967296) : NQ 140 32 (Int64.ofNat X) (Int64.ofNat Y) := by
  refine NQ_0 (v := fo2 1 X Y) (fo2_lt 1 hX hY) (fun h O => ?_) (fun h a k => ?_)
  · obtain ⟨h', e, g⟩ := mR2_1 O hX hY
    refine ⟨h', ?_, g⟩
    rw [rkS_140, if_pos O.1, e, jr_bs]
  · rw [apS_140, if_pos k, cR2_1 hX hY, jr_bs]
theorem rkS_141 (h : pm_H) (x y : Int64) : fX16_reckons h 592 141 x y = if pm_kd h 592 = 16 then (fX16_real h 592 2 2 x y).bind fun v18 => some ((v18.1, v18.2)) else none := by
  unfold fX16_reckons
  rw [show fX16_operandOf 141 = 2 by decide, jr_let, if_neg (by decide), if_neg (by decide), if_pos (show (91 : Int32) ≤ 141 by decide), if_pos (show (103 : Int32) ≤ 141 by decide), if_pos (show (139 : Int32) ≤ 141 by decide), if_neg (show ¬ (167 : Int32) ≤ 141 by decide), if_pos rfl, show (141 - 139 : Int32) = 2 by decide]
theorem apS_141 (h : pm_H) (a : Nat) (x y : Int64) : fX8_apply h a 141 x y = if pm_kd h a = 8 then (fX8_floating 2 2 x y).bind fun v18 => some ((v18, pm_setI h a 0 0)) else none := by
  unfold fX8_apply
  rw [if_pos (show (80 : Int32) ≤ 141 by decide), if_pos (show (91 : Int32) ≤ 141 by decide), if_pos (show (97 : Int32) ≤ 141 by decide), if_pos (show (103 : Int32) ≤ 141 by decide), if_pos (show (121 : Int32) ≤ 141 by decide), if_pos (show (139 : Int32) ≤ 141 by decide), if_neg (show ¬ (153 : Int32) ≤ 141 by decide), show (141 - 139 : Int32) = 2 by decide]
theorem NQ_141 {X Y : Nat} (hX : X < 4294967296) (hY : Y < 4294967296) : NQ 141 32 (Int64.ofNat X) (Int64.ofNat Y) := by
  refine NQ_0 (v := fo2 2 X Y) (fo2_lt 2 hX hY) (fun h O => ?_) (fun h a k => ?_)
  · obtain ⟨h', e, g⟩ := mR2_2 O hX hY
    refine ⟨h', ?_, g⟩
    rw [rkS_141, if_pos O.1, e, jr_bs]
  · rw [apS_141, if_pos k, cR2_2 hX hY, jr_bs]
theorem rkS_142 (h : pm_H) (x y : Int64) : fX16_reckons h 592 142 x y = if pm_kd h 592 = 16 then (fX16_real h 592 3 2 x y).bind fun v18 => some ((v18.1, v18.2)) else none := by
  unfold fX16_reckons
  rw [show fX16_operandOf 142 = 2 by decide, jr_let, if_neg (by decide), if_neg (by decide), if_pos (show (91 : Int32) ≤ 142 by decide), if_pos (show (103 : Int32) ≤ 142 by decide), if_pos (show (139 : Int32) ≤ 142 by decide), if_neg (show ¬ (167 : Int32) ≤ 142 by decide), if_pos rfl, show (142 - 139 : Int32) = 3 by decide]
theorem apS_142 (h : pm_H) (a : Nat) (x y : Int64) : fX8_apply h a 142 x y = if pm_kd h a = 8 then (fX8_floating 2 3 x y).bind fun v18 => some ((v18, pm_setI h a 0 0)) else none := by
  unfold fX8_apply
  rw [if_pos (show (80 : Int32) ≤ 142 by decide), if_pos (show (91 : Int32) ≤ 142 by decide), if_pos (show (97 : Int32) ≤ 142 by decide), if_pos (show (103 : Int32) ≤ 142 by decide), if_pos (show (121 : Int32) ≤ 142 by decide), if_pos (show (139 : Int32) ≤ 142 by decide), if_neg (show ¬ (153 : Int32) ≤ 142 by decide), show (142 - 139 : Int32) = 3 by decide]
theorem NQ_142 {X Y : Nat} (hX : X < 4294967296) (hY : Y < 4294967296) : NQ 142 32 (Int64.ofNat X) (Int64.ofNat Y) := by
  refine NQ_0 (v := fo2 3 X Y) (fo2_lt 3 hX hY) (fun h O => ?_) (fun h a k => ?_)
  · obtain ⟨h', e, g⟩ := mR2_3 O hX hY
    refine ⟨h', ?_, g⟩
    rw [rkS_142, if_pos O.1, e, jr_bs]
  · rw [apS_142, if_pos k, cR2_3 hX hY, jr_bs]
theorem rkS_143 (h : pm_H) (x y : Int64) : fX16_reckons h 592 143 x y = if pm_kd h 592 = 16 then (fX16_real h 592 4 2 x y).bind fun v18 => some ((v18.1, v18.2)) else none := by
  unfold fX16_reckons
  rw [show fX16_operandOf 143 = 2 by decide, jr_let, if_neg (by decide), if_neg (by decide), if_pos (show (91 : Int32) ≤ 143 by decide), if_pos (show (103 : Int32) ≤ 143 by decide), if_pos (show (139 : Int32) ≤ 143 by decide), if_neg (show ¬ (167 : Int32) ≤ 143 by decide), if_pos rfl, show (143 - 139 : Int32) = 4 by decide]
theorem apS_143 (h : pm_H) (a : Nat) (x y : Int64) : fX8_apply h a 143 x y = if pm_kd h a = 8 then (fX8_floating 2 4 x y).bind fun v18 => some ((v18, pm_setI h a 0 0)) else none := by
  unfold fX8_apply
  rw [if_pos (show (80 : Int32) ≤ 143 by decide), if_pos (show (91 : Int32) ≤ 143 by decide), if_pos (show (97 : Int32) ≤ 143 by decide), if_pos (show (103 : Int32) ≤ 143 by decide), if_pos (show (121 : Int32) ≤ 143 by decide), if_pos (show (139 : Int32) ≤ 143 by decide), if_neg (show ¬ (153 : Int32) ≤ 143 by decide), show (143 - 139 : Int32) = 4 by decide]
theorem NQ_143 {X Y : Nat} (hX : X < 4294967296) (hY : Y < 4294967296) : NQ 143 32 (Int64.ofNat X) (Int64.ofNat Y) := by
  refine NQ_0 (v := fo2 4 X Y) (fo2_lt 4 hX hY) (fun h O => ?_) (fun h a k => ?_)
  · obtain ⟨h', e, g⟩ := mR2_4 O hX hY
    refine ⟨h', ?_, g⟩
    rw [rkS_143, if_pos O.1, e, jr_bs]
  · rw [apS_143, if_pos k, cR2_4 hX hY, jr_bs]
theorem rkS_144 (h : pm_H) (x y : Int64) : fX16_reckons h 592 144 x y = if pm_kd h 592 = 16 then (fX16_real h 592 5 2 x y).bind fun v18 => some ((v18.1, v18.2)) else none := by
  unfold fX16_reckons
  rw [show fX16_operandOf 144 = 2 by decide, jr_let, if_neg (by decide), if_neg (by decide), if_pos (show (91 : Int32) ≤ 144 by decide), if_pos (show (103 : Int32) ≤ 144 by decide), if_pos (show (139 : Int32) ≤ 144 by decide), if_neg (show ¬ (167 : Int32) ≤ 144 by decide), if_pos rfl, show (144 - 139 : Int32) = 5 by decide]
theorem apS_144 (h : pm_H) (a : Nat) (x y : Int64) : fX8_apply h a 144 x y = if pm_kd h a = 8 then (fX8_floating 2 5 x y).bind fun v18 => some ((v18, pm_setI h a 0 0)) else none := by
  unfold fX8_apply
  rw [if_pos (show (80 : Int32) ≤ 144 by decide), if_pos (show (91 : Int32) ≤ 144 by decide), if_pos (show (97 : Int32) ≤ 144 by decide), if_pos (show (103 : Int32) ≤ 144 by decide), if_pos (show (121 : Int32) ≤ 144 by decide), if_pos (show (139 : Int32) ≤ 144 by decide), if_neg (show ¬ (153 : Int32) ≤ 144 by decide), show (144 - 139 : Int32) = 5 by decide]
theorem NQ_144 {X Y : Nat} (hX : X < 4294967296) (hY : Y < 4294967296) : NQ 144 32 (Int64.ofNat X) (Int64.ofNat Y) := by
  refine NQ_0 (v := fo2 5 X Y) (fo2_lt 5 hX hY) (fun h O => ?_) (fun h a k => ?_)
  · obtain ⟨h', e, g⟩ := mR2_5 O hX hY
    refine ⟨h', ?_, g⟩
    rw [rkS_144, if_pos O.1, e, jr_bs]
  · rw [apS_144, if_pos k, cR2_5 hX hY, jr_bs]
theorem rkS_145 (h : pm_H) (x y : Int64) : fX16_reckons h 592 145 x y = if pm_kd h 592 = 16 then (fX16_real h 592 6 2 x y).bind fun v18 => some ((v18.1, v18.2)) else none := by
  unfold fX16_reckons
  rw [show fX16_operandOf 145 = 2 by decide, jr_let, if_neg (by decide), if_neg (by decide), if_pos (show (91 : Int32) ≤ 145 by decide), if_pos (show (103 : Int32) ≤ 145 by decide), if_pos (show (139 : Int32) ≤ 145 by decide), if_neg (show ¬ (167 : Int32) ≤ 145 by decide), if_pos rfl, show (145 - 139 : Int32) = 6 by decide]
theorem apS_145 (h : pm_H) (a : Nat) (x y : Int64) : fX8_apply h a 145 x y = if pm_kd h a = 8 then (fX8_floating 2 6 x y).bind fun v18 => some ((v18, pm_setI h a 0 0)) else none := by
  unfold fX8_apply
  rw [if_pos (show (80 : Int32) ≤ 145 by decide), if_pos (show (91 : Int32) ≤ 145 by decide), if_pos (show (97 : Int32) ≤ 145 by decide), if_pos (show (103 : Int32) ≤ 145 by decide), if_pos (show (121 : Int32) ≤ 145 by decide), if_pos (show (139 : Int32) ≤ 145 by decide), if_neg (show ¬ (153 : Int32) ≤ 145 by decide), show (145 - 139 : Int32) = 6 by decide]
theorem NQ_145 {X Y : Nat} (hX : X < 4294967296) (hY : Y < 4294967296) : NQ 145 32 (Int64.ofNat X) (Int64.ofNat Y) := by
  refine NQ_0 (v := fo2 6 X Y) (fo2_lt 6 hX hY) (fun h O => ?_) (fun h a k => ?_)
  · obtain ⟨h', e, g⟩ := mR2_6 O hX hY
    refine ⟨h', ?_, g⟩
    rw [rkS_145, if_pos O.1, e, jr_bs]
  · rw [apS_145, if_pos k, cR2_6 hX hY, jr_bs]
theorem rkS_146 (h : pm_H) (x y : Int64) : fX16_reckons h 592 146 x y = if pm_kd h 592 = 16 then (fX16_real h 592 7 2 x y).bind fun v18 => some ((v18.1, v18.2)) else none := by
  unfold fX16_reckons
  rw [show fX16_operandOf 146 = 2 by decide, jr_let, if_neg (by decide), if_neg (by decide), if_pos (show (91 : Int32) ≤ 146 by decide), if_pos (show (103 : Int32) ≤ 146 by decide), if_pos (show (139 : Int32) ≤ 146 by decide), if_neg (show ¬ (167 : Int32) ≤ 146 by decide), if_pos rfl, show (146 - 139 : Int32) = 7 by decide]
theorem apS_146 (h : pm_H) (a : Nat) (x y : Int64) : fX8_apply h a 146 x y = if pm_kd h a = 8 then (fX8_floating 2 7 x y).bind fun v18 => some ((v18, pm_setI h a 0 0)) else none := by
  unfold fX8_apply
  rw [if_pos (show (80 : Int32) ≤ 146 by decide), if_pos (show (91 : Int32) ≤ 146 by decide), if_pos (show (97 : Int32) ≤ 146 by decide), if_pos (show (103 : Int32) ≤ 146 by decide), if_pos (show (121 : Int32) ≤ 146 by decide), if_pos (show (139 : Int32) ≤ 146 by decide), if_neg (show ¬ (153 : Int32) ≤ 146 by decide), show (146 - 139 : Int32) = 7 by decide]
theorem NQ_146 {X Y : Nat} (hX : X < 4294967296) (hY : Y < 4294967296) : NQ 146 32 (Int64.ofNat X) (Int64.ofNat Y) := by
  refine NQ_0 (v := fo2 7 X Y) (fo2_lt 7 hX hY) (fun h O => ?_) (fun h a k => ?_)
  · obtain ⟨h', e, g⟩ := mR2_7 O hX hY
    refine ⟨h', ?_, g⟩
    rw [rkS_146, if_pos O.1, e, jr_bs]
  · rw [apS_146, if_pos k, cR2_7 hX hY, jr_bs]
theorem rkS_147 (h : pm_H) (x y : Int64) : fX16_reckons h 592 147 x y = if pm_kd h 592 = 16 then (fX16_real h 592 8 2 x y).bind fun v18 => some ((v18.1, v18.2)) else none := by
  unfold fX16_reckons
  rw [show fX16_operandOf 147 = 2 by decide, jr_let, if_neg (by decide), if_neg (by decide), if_pos (show (91 : Int32) ≤ 147 by decide), if_pos (show (103 : Int32) ≤ 147 by decide), if_pos (show (139 : Int32) ≤ 147 by decide), if_neg (show ¬ (167 : Int32) ≤ 147 by decide), if_pos rfl, show (147 - 139 : Int32) = 8 by decide]
theorem apS_147 (h : pm_H) (a : Nat) (x y : Int64) : fX8_apply h a 147 x y = if pm_kd h a = 8 then (fX8_floating 2 8 x y).bind fun v18 => some ((v18, pm_setI h a 0 0)) else none := by
  unfold fX8_apply
  rw [if_pos (show (80 : Int32) ≤ 147 by decide), if_pos (show (91 : Int32) ≤ 147 by decide), if_pos (show (97 : Int32) ≤ 147 by decide), if_pos (show (103 : Int32) ≤ 147 by decide), if_pos (show (121 : Int32) ≤ 147 by decide), if_pos (show (139 : Int32) ≤ 147 by decide), if_neg (show ¬ (153 : Int32) ≤ 147 by decide), show (147 - 139 : Int32) = 8 by decide]
theorem NQ_147 {X Y : Nat} (hX : X < 4294967296) (hY : Y < 4294967296) : NQ 147 32 (Int64.ofNat X) (Int64.ofNat Y) := by
  refine NQ_0 (v := fo2 8 X Y) (fo2_lt 8 hX hY) (fun h O => ?_) (fun h a k => ?_)
  · obtain ⟨h', e, g⟩ := mR2_8 O hX hY
    refine ⟨h', ?_, g⟩
    rw [rkS_147, if_pos O.1, e, jr_bs]
  · rw [apS_147, if_pos k, cR2_8 hX hY, jr_bs]
theorem rkS_148 (h : pm_H) (x y : Int64) : fX16_reckons h 592 148 x y = if pm_kd h 592 = 16 then (fX16_real h 592 9 2 x y).bind fun v18 => some ((v18.1, v18.2)) else none := by
  unfold fX16_reckons
  rw [show fX16_operandOf 148 = 2 by decide, jr_let, if_neg (by decide), if_neg (by decide), if_pos (show (91 : Int32) ≤ 148 by decide), if_pos (show (103 : Int32) ≤ 148 by decide), if_pos (show (139 : Int32) ≤ 148 by decide), if_neg (show ¬ (167 : Int32) ≤ 148 by decide), if_pos rfl, show (148 - 139 : Int32) = 9 by decide]
theorem apS_148 (h : pm_H) (a : Nat) (x y : Int64) : fX8_apply h a 148 x y = if pm_kd h a = 8 then (fX8_floating 2 9 x y).bind fun v18 => some ((v18, pm_setI h a 0 0)) else none := by
  unfold fX8_apply
  rw [if_pos (show (80 : Int32) ≤ 148 by decide), if_pos (show (91 : Int32) ≤ 148 by decide), if_pos (show (97 : Int32) ≤ 148 by decide), if_pos (show (103 : Int32) ≤ 148 by decide), if_pos (show (121 : Int32) ≤ 148 by decide), if_pos (show (139 : Int32) ≤ 148 by decide), if_neg (show ¬ (153 : Int32) ≤ 148 by decide), show (148 - 139 : Int32) = 9 by decide]
theorem NQ_148 {X Y : Nat} (hX : X < 4294967296) (hY : Y < 4294967296) : NQ 148 32 (Int64.ofNat X) (Int64.ofNat Y) := by
  refine NQ_0 (v := fo2 9 X Y) (fo2_lt 9 hX hY) (fun h O => ?_) (fun h a k => ?_)
  · obtain ⟨h', e, g⟩ := mR2_9 O hX hY
    refine ⟨h', ?_, g⟩
    rw [rkS_148, if_pos O.1, e, jr_bs]
  · rw [apS_148, if_pos k, cR2_9 hX hY, jr_bs]
theorem rkS_149 (h : pm_H) (x y : Int64) : fX16_reckons h 592 149 x y = if pm_kd h 592 = 16 then (fX16_real h 592 10 2 x y).bind fun v18 => some ((v18.1, v18.2)) else none := by
  unfold fX16_reckons
  rw [show fX16_operandOf 149 = 2 by decide, jr_let, if_neg (by decide), if_neg (by decide), if_pos (show (91 : Int32) ≤ 149 by decide), if_pos (show (103 : Int32) ≤ 149 by decide), if_pos (show (139 : Int32) ≤ 149 by decide), if_neg (show ¬ (167 : Int32) ≤ 149 by decide), if_pos rfl, show (149 - 139 : Int32) = 10 by decide]
theorem apS_149 (h : pm_H) (a : Nat) (x y : Int64) : fX8_apply h a 149 x y = if pm_kd h a = 8 then (fX8_floating 2 10 x y).bind fun v18 => some ((v18, pm_setI h a 0 0)) else none := by
  unfold fX8_apply
  rw [if_pos (show (80 : Int32) ≤ 149 by decide), if_pos (show (91 : Int32) ≤ 149 by decide), if_pos (show (97 : Int32) ≤ 149 by decide), if_pos (show (103 : Int32) ≤ 149 by decide), if_pos (show (121 : Int32) ≤ 149 by decide), if_pos (show (139 : Int32) ≤ 149 by decide), if_neg (show ¬ (153 : Int32) ≤ 149 by decide), show (149 - 139 : Int32) = 10 by decide]
theorem NQ_149 {X Y : Nat} (hX : X < 4294967296) (hY : Y < 4294967296) : NQ 149 32 (Int64.ofNat X) (Int64.ofNat Y) := by
  refine NQ_0 (v := fo2 10 X Y) (fo2_lt 10 hX hY) (fun h O => ?_) (fun h a k => ?_)
  · obtain ⟨h', e, g⟩ := mR2_10 O hX hY
    refine ⟨h', ?_, g⟩
    rw [rkS_149, if_pos O.1, e, jr_bs]
  · rw [apS_149, if_pos k, cR2_10 hX hY, jr_bs]
theorem rkS_150 (h : pm_H) (x y : Int64) : fX16_reckons h 592 150 x y = if pm_kd h 592 = 16 then (fX16_real h 592 11 2 x y).bind fun v18 => some ((v18.1, v18.2)) else none := by
  unfold fX16_reckons
  rw [show fX16_operandOf 150 = 2 by decide, jr_let, if_neg (by decide), if_neg (by decide), if_pos (show (91 : Int32) ≤ 150 by decide), if_pos (show (103 : Int32) ≤ 150 by decide), if_pos (show (139 : Int32) ≤ 150 by decide), if_neg (show ¬ (167 : Int32) ≤ 150 by decide), if_pos rfl, show (150 - 139 : Int32) = 11 by decide]
theorem apS_150 (h : pm_H) (a : Nat) (x y : Int64) : fX8_apply h a 150 x y = if pm_kd h a = 8 then (fX8_floating 2 11 x y).bind fun v18 => some ((v18, pm_setI h a 0 0)) else none := by
  unfold fX8_apply
  rw [if_pos (show (80 : Int32) ≤ 150 by decide), if_pos (show (91 : Int32) ≤ 150 by decide), if_pos (show (97 : Int32) ≤ 150 by decide), if_pos (show (103 : Int32) ≤ 150 by decide), if_pos (show (121 : Int32) ≤ 150 by decide), if_pos (show (139 : Int32) ≤ 150 by decide), if_neg (show ¬ (153 : Int32) ≤ 150 by decide), show (150 - 139 : Int32) = 11 by decide]
theorem NQ_150 {X Y : Nat} (hX : X < 4294967296) (hY : Y < 4294967296) : NQ 150 32 (Int64.ofNat X) (Int64.ofNat Y) := by
  refine NQ_0 (v := fo2 11 X Y) (fo2_lt 11 hX hY) (fun h O => ?_) (fun h a k => ?_)
  · obtain ⟨h', e, g⟩ := mR2_11 O hX hY
    refine ⟨h', ?_, g⟩
    rw [rkS_150, if_pos O.1, e, jr_bs]
  · rw [apS_150, if_pos k, cR2_11 hX hY, jr_bs]
theorem rkS_151 (h : pm_H) (x y : Int64) : fX16_reckons h 592 151 x y = if pm_kd h 592 = 16 then (fX16_real h 592 12 2 x y).bind fun v18 => some ((v18.1, v18.2)) else none := by
  unfold fX16_reckons
  rw [show fX16_operandOf 151 = 2 by decide, jr_let, if_neg (by decide), if_neg (by decide), if_pos (show (91 : Int32) ≤ 151 by decide), if_pos (show (103 : Int32) ≤ 151 by decide), if_pos (show (139 : Int32) ≤ 151 by decide), if_neg (show ¬ (167 : Int32) ≤ 151 by decide), if_pos rfl, show (151 - 139 : Int32) = 12 by decide]
theorem apS_151 (h : pm_H) (a : Nat) (x y : Int64) : fX8_apply h a 151 x y = if pm_kd h a = 8 then (fX8_floating 2 12 x y).bind fun v18 => some ((v18, pm_setI h a 0 0)) else none := by
  unfold fX8_apply
  rw [if_pos (show (80 : Int32) ≤ 151 by decide), if_pos (show (91 : Int32) ≤ 151 by decide), if_pos (show (97 : Int32) ≤ 151 by decide), if_pos (show (103 : Int32) ≤ 151 by decide), if_pos (show (121 : Int32) ≤ 151 by decide), if_pos (show (139 : Int32) ≤ 151 by decide), if_neg (show ¬ (153 : Int32) ≤ 151 by decide), show (151 - 139 : Int32) = 12 by decide]
theorem NQ_151 {X Y : Nat} (hX : X < 4294967296) (hY : Y < 4294967296) : NQ 151 32 (Int64.ofNat X) (Int64.ofNat Y) := by
  refine NQ_0 (v := fo2 12 X Y) (fo2_lt 12 hX hY) (fun h O => ?_) (fun h a k => ?_)
  · obtain ⟨h', e, g⟩ := mR2_12 O hX hY
    refine ⟨h', ?_, g⟩
    rw [rkS_151, if_pos O.1, e, jr_bs]
  · rw [apS_151, if_pos k, cR2_12 hX hY, jr_bs]
theorem rkS_152 (h : pm_H) (x y : Int64) : fX16_reckons h 592 152 x y = if pm_kd h 592 = 16 then (fX16_real h 592 13 2 x y).bind fun v18 => some ((v18.1, v18.2)) else none := by
  unfold fX16_reckons
  rw [show fX16_operandOf 152 = 2 by decide, jr_let, if_neg (by decide), if_neg (by decide), if_pos (show (91 : Int32) ≤ 152 by decide), if_pos (show (103 : Int32) ≤ 152 by decide), if_pos (show (139 : Int32) ≤ 152 by decide), if_neg (show ¬ (167 : Int32) ≤ 152 by decide), if_pos rfl, show (152 - 139 : Int32) = 13 by decide]
theorem apS_152 (h : pm_H) (a : Nat) (x y : Int64) : fX8_apply h a 152 x y = if pm_kd h a = 8 then (fX8_floating 2 13 x y).bind fun v18 => some ((v18, pm_setI h a 0 0)) else none := by
  unfold fX8_apply
  rw [if_pos (show (80 : Int32) ≤ 152 by decide), if_pos (show (91 : Int32) ≤ 152 by decide), if_pos (show (97 : Int32) ≤ 152 by decide), if_pos (show (103 : Int32) ≤ 152 by decide), if_pos (show (121 : Int32) ≤ 152 by decide), if_pos (show (139 : Int32) ≤ 152 by decide), if_neg (show ¬ (153 : Int32) ≤ 152 by decide), show (152 - 139 : Int32) = 13 by decide]
theorem NQ_152 {X Y : Nat} (hX : X < 4294967296) (hY : Y < 4294967296) : NQ 152 32 (Int64.ofNat X) (Int64.ofNat Y) := by
  refine NQ_0 (v := fo2 13 X Y) (fo2_lt 13 hX hY) (fun h O => ?_) (fun h a k => ?_)
  · obtain ⟨h', e, g⟩ := mR2_13 O hX hY
    refine ⟨h', ?_, g⟩
    rw [rkS_152, if_pos O.1, e, jr_bs]
  · rw [apS_152, if_pos k, cR2_13 hX hY, jr_bs]
theorem rkS_153 (h : pm_H) (x y : Int64) : fX16_reckons h 592 153 x y = if pm_kd h 592 = 16 then (fX16_real h 592 0 3 x y).bind fun v18 => some ((v18.1, v18.2)) else none := by
  unfold fX16_reckons
  rw [show fX16_operandOf 153 = 3 by decide, jr_let, if_neg (by decide), if_neg (by decide), if_pos (show (91 : Int32) ≤ 153 by decide), if_pos (show (103 : Int32) ≤ 153 by decide), if_pos (show (139 : Int32) ≤ 153 by decide), if_neg (show ¬ (167 : Int32) ≤ 153 by decide), if_neg (by decide), show (153 - 153 : Int32) = 0 by decide]
theorem apS_153 (h : pm_H) (a : Nat) (x y : Int64) : fX8_apply h a 153 x y = if pm_kd h a = 8 then (fX8_floating 3 0 x y).bind fun v18 => some ((v18, pm_setI h a 0 0)) else none := by
  unfold fX8_apply
  rw [if_pos (show (80 : Int32) ≤ 153 by decide), if_pos (show (91 : Int32) ≤ 153 by decide), if_pos (show (97 : Int32) ≤ 153 by decide), if_pos (show (103 : Int32) ≤ 153 by decide), if_pos (show (121 : Int32) ≤ 153 by decide), if_pos (show (139 : Int32) ≤ 153 by decide), if_pos (show (153 : Int32) ≤ 153 by decide), if_neg (show ¬ (167 : Int32) ≤ 153 by decide), show (153 - 153 : Int32) = 0 by decide]
theorem NQ_153 {X Y : Nat} (hX : X < 18446744073709551616) (hY : Y < 18446744073709551616) : NQ 153 64 (Int64.ofNat X) (Int64.ofNat Y) := by
  refine NQ_0 (v := fo3 0 X Y) (fo3_lt 0 hX hY) (fun h O => ?_) (fun h a k => ?_)
  · obtain ⟨h', e, g⟩ := mR3_0 O hX hY
    refine ⟨h', ?_, g⟩
    rw [rkS_153, if_pos O.1, e, jr_bs]
  · rw [apS_153, if_pos k, cR3_0 hX hY, jr_bs]
theorem rkS_154 (h : pm_H) (x y : Int64) : fX16_reckons h 592 154 x y = if pm_kd h 592 = 16 then (fX16_real h 592 1 3 x y).bind fun v18 => some ((v18.1, v18.2)) else none := by
  unfold fX16_reckons
  rw [show fX16_operandOf 154 = 3 by decide, jr_let, if_neg (by decide), if_neg (by decide), if_pos (show (91 : Int32) ≤ 154 by decide), if_pos (show (103 : Int32) ≤ 154 by decide), if_pos (show (139 : Int32) ≤ 154 by decide), if_neg (show ¬ (167 : Int32) ≤ 154 by decide), if_neg (by decide), show (154 - 153 : Int32) = 1 by decide]
theorem apS_154 (h : pm_H) (a : Nat) (x y : Int64) : fX8_apply h a 154 x y = if pm_kd h a = 8 then (fX8_floating 3 1 x y).bind fun v18 => some ((v18, pm_setI h a 0 0)) else none := by
  unfold fX8_apply
  rw [if_pos (show (80 : Int32) ≤ 154 by decide), if_pos (show (91 : Int32) ≤ 154 by decide), if_pos (show (97 : Int32) ≤ 154 by decide), if_pos (show (103 : Int32) ≤ 154 by decide), if_pos (show (121 : Int32) ≤ 154 by decide), if_pos (show (139 : Int32) ≤ 154 by decide), if_pos (show (153 : Int32) ≤ 154 by decide), if_neg (show ¬ (167 : Int32) ≤ 154 by decide), show (154 - 153 : Int32) = 1 by decide]
theorem NQ_154 {X Y : Nat} (hX : X < 18446744073709551616) (hY : Y < 18446744073709551616) : NQ 154 64 (Int64.ofNat X) (Int64.ofNat Y) := by
  refine NQ_0 (v := fo3 1 X Y) (fo3_lt 1 hX hY) (fun h O => ?_) (fun h a k => ?_)
  · obtain ⟨h', e, g⟩ := mR3_1 O hX hY
    refine ⟨h', ?_, g⟩
    rw [rkS_154, if_pos O.1, e, jr_bs]
  · rw [apS_154, if_pos k, cR3_1 hX hY, jr_bs]
theorem rkS_155 (h : pm_H) (x y : Int64) : fX16_reckons h 592 155 x y = if pm_kd h 592 = 16 then (fX16_real h 592 2 3 x y).bind fun v18 => some ((v18.1, v18.2)) else none := by
  unfold fX16_reckons
  rw [show fX16_operandOf 155 = 3 by decide, jr_let, if_neg (by decide), if_neg (by decide), if_pos (show (91 : Int32) ≤ 155 by decide), if_pos (show (103 : Int32) ≤ 155 by decide), if_pos (show (139 : Int32) ≤ 155 by decide), if_neg (show ¬ (167 : Int32) ≤ 155 by decide), if_neg (by decide), show (155 - 153 : Int32) = 2 by decide]
theorem apS_155 (h : pm_H) (a : Nat) (x y : Int64) : fX8_apply h a 155 x y = if pm_kd h a = 8 then (fX8_floating 3 2 x y).bind fun v18 => some ((v18, pm_setI h a 0 0)) else none := by
  unfold fX8_apply
  rw [if_pos (show (80 : Int32) ≤ 155 by decide), if_pos (show (91 : Int32) ≤ 155 by decide), if_pos (show (97 : Int32) ≤ 155 by decide), if_pos (show (103 : Int32) ≤ 155 by decide), if_pos (show (121 : Int32) ≤ 155 by decide), if_pos (show (139 : Int32) ≤ 155 by decide), if_pos (show (153 : Int32) ≤ 155 by decide), if_neg (show ¬ (167 : Int32) ≤ 155 by decide), show (155 - 153 : Int32) = 2 by decide]
theorem NQ_155 {X Y : Nat} (hX : X < 18446744073709551616) (hY : Y < 18446744073709551616) : NQ 155 64 (Int64.ofNat X) (Int64.ofNat Y) := by
  refine NQ_0 (v := fo3 2 X Y) (fo3_lt 2 hX hY) (fun h O => ?_) (fun h a k => ?_)
  · obtain ⟨h', e, g⟩ := mR3_2 O hX hY
    refine ⟨h', ?_, g⟩
    rw [rkS_155, if_pos O.1, e, jr_bs]
  · rw [apS_155, if_pos k, cR3_2 hX hY, jr_bs]
theorem rkS_156 (h : pm_H) (x y : Int64) : fX16_reckons h 592 156 x y = if pm_kd h 592 = 16 then (fX16_real h 592 3 3 x y).bind fun v18 => some ((v18.1, v18.2)) else none := by
  unfold fX16_reckons
  rw [show fX16_operandOf 156 = 3 by decide, jr_let, if_neg (by decide), if_neg (by decide), if_pos (show (91 : Int32) ≤ 156 by decide), if_pos (show (103 : Int32) ≤ 156 by decide), if_pos (show (139 : Int32) ≤ 156 by decide), if_neg (show ¬ (167 : Int32) ≤ 156 by decide), if_neg (by decide), show (156 - 153 : Int32) = 3 by decide]
theorem apS_156 (h : pm_H) (a : Nat) (x y : Int64) : fX8_apply h a 156 x y = if pm_kd h a = 8 then (fX8_floating 3 3 x y).bind fun v18 => some ((v18, pm_setI h a 0 0)) else none := by
  unfold fX8_apply
  rw [if_pos (show (80 : Int32) ≤ 156 by decide), if_pos (show (91 : Int32) ≤ 156 by decide), if_pos (show (97 : Int32) ≤ 156 by decide), if_pos (show (103 : Int32) ≤ 156 by decide), if_pos (show (121 : Int32) ≤ 156 by decide), if_pos (show (139 : Int32) ≤ 156 by decide), if_pos (show (153 : Int32) ≤ 156 by decide), if_neg (show ¬ (167 : Int32) ≤ 156 by decide), show (156 - 153 : Int32) = 3 by decide]
theorem NQ_156 {X Y : Nat} (hX : X < 18446744073709551616) (hY : Y < 18446744073709551616) : NQ 156 64 (Int64.ofNat X) (Int64.ofNat Y) := by
  refine NQ_0 (v := fo3 3 X Y) (fo3_lt 3 hX hY) (fun h O => ?_) (fun h a k => ?_)
  · obtain ⟨h', e, g⟩ := mR3_3 O hX hY
    refine ⟨h', ?_, g⟩
    rw [rkS_156, if_pos O.1, e, jr_bs]
  · rw [apS_156, if_pos k, cR3_3 hX hY, jr_bs]
theorem rkS_157 (h : pm_H) (x y : Int64) : fX16_reckons h 592 157 x y = if pm_kd h 592 = 16 then (fX16_real h 592 4 3 x y).bind fun v18 => some ((v18.1, v18.2)) else none := by
  unfold fX16_reckons
  rw [show fX16_operandOf 157 = 3 by decide, jr_let, if_neg (by decide), if_neg (by decide), if_pos (show (91 : Int32) ≤ 157 by decide), if_pos (show (103 : Int32) ≤ 157 by decide), if_pos (show (139 : Int32) ≤ 157 by decide), if_neg (show ¬ (167 : Int32) ≤ 157 by decide), if_neg (by decide), show (157 - 153 : Int32) = 4 by decide]
theorem apS_157 (h : pm_H) (a : Nat) (x y : Int64) : fX8_apply h a 157 x y = if pm_kd h a = 8 then (fX8_floating 3 4 x y).bind fun v18 => some ((v18, pm_setI h a 0 0)) else none := by
  unfold fX8_apply
  rw [if_pos (show (80 : Int32) ≤ 157 by decide), if_pos (show (91 : Int32) ≤ 157 by decide), if_pos (show (97 : Int32) ≤ 157 by decide), if_pos (show (103 : Int32) ≤ 157 by decide), if_pos (show (121 : Int32) ≤ 157 by decide), if_pos (show (139 : Int32) ≤ 157 by decide), if_pos (show (153 : Int32) ≤ 157 by decide), if_neg (show ¬ (167 : Int32) ≤ 157 by decide), show (157 - 153 : Int32) = 4 by decide]
theorem NQ_157 {X Y : Nat} (hX : X < 18446744073709551616) (hY : Y < 18446744073709551616) : NQ 157 64 (Int64.ofNat X) (Int64.ofNat Y) := by
  refine NQ_0 (v := fo3 4 X Y) (fo3_lt 4 hX hY) (fun h O => ?_) (fun h a k => ?_)
  · obtain ⟨h', e, g⟩ := mR3_4 O hX hY
    refine ⟨h', ?_, g⟩
    rw [rkS_157, if_pos O.1, e, jr_bs]
  · rw [apS_157, if_pos k, cR3_4 hX hY, jr_bs]
theorem rkS_158 (h : pm_H) (x y : Int64) : fX16_reckons h 592 158 x y = if pm_kd h 592 = 16 then (fX16_real h 592 5 3 x y).bind fun v18 => some ((v18.1, v18.2)) else none := by
  unfold fX16_reckons
  rw [show fX16_operandOf 158 = 3 by decide, jr_let, if_neg (by decide), if_neg (by decide), if_pos (show (91 : Int32) ≤ 158 by decide), if_pos (show (103 : Int32) ≤ 158 by decide), if_pos (show (139 : Int32) ≤ 158 by decide), if_neg (show ¬ (167 : Int32) ≤ 158 by decide), if_neg (by decide), show (158 - 153 : Int32) = 5 by decide]
theorem apS_158 (h : pm_H) (a : Nat) (x y : Int64) : fX8_apply h a 158 x y = if pm_kd h a = 8 then (fX8_floating 3 5 x y).bind fun v18 => some ((v18, pm_setI h a 0 0)) else none := by
  unfold fX8_apply
  rw [if_pos (show (80 : Int32) ≤ 158 by decide), if_pos (show (91 : Int32) ≤ 158 by decide), if_pos (show (97 : Int32) ≤ 158 by decide), if_pos (show (103 : Int32) ≤ 158 by decide), if_pos (show (121 : Int32) ≤ 158 by decide), if_pos (show (139 : Int32) ≤ 158 by decide), if_pos (show (153 : Int32) ≤ 158 by decide), if_neg (show ¬ (167 : Int32) ≤ 158 by decide), show (158 - 153 : Int32) = 5 by decide]
theorem NQ_158 {X Y : Nat} (hX : X < 18446744073709551616) (hY : Y < 18446744073709551616) : NQ 158 64 (Int64.ofNat X) (Int64.ofNat Y) := by
  refine NQ_0 (v := fo3 5 X Y) (fo3_lt 5 hX hY) (fun h O => ?_) (fun h a k => ?_)
  · obtain ⟨h', e, g⟩ := mR3_5 O hX hY
    refine ⟨h', ?_, g⟩
    rw [rkS_158, if_pos O.1, e, jr_bs]
  · rw [apS_158, if_pos k, cR3_5 hX hY, jr_bs]
theorem rkS_159 (h : pm_H) (x y : Int64) : fX16_reckons h 592 159 x y = if pm_kd h 592 = 16 then (fX16_real h 592 6 3 x y).bind fun v18 => some ((v18.1, v18.2)) else none := by
  unfold fX16_reckons
  rw [show fX16_operandOf 159 = 3 by decide, jr_let, if_neg (by decide), if_neg (by decide), if_pos (show (91 : Int32) ≤ 159 by decide), if_pos (show (103 : Int32) ≤ 159 by decide), if_pos (show (139 : Int32) ≤ 159 by decide), if_neg (show ¬ (167 : Int32) ≤ 159 by decide), if_neg (by decide), show (159 - 153 : Int32) = 6 by decide]
theorem apS_159 (h : pm_H) (a : Nat) (x y : Int64) : fX8_apply h a 159 x y = if pm_kd h a = 8 then (fX8_floating 3 6 x y).bind fun v18 => some ((v18, pm_setI h a 0 0)) else none := by
  unfold fX8_apply
  rw [if_pos (show (80 : Int32) ≤ 159 by decide), if_pos (show (91 : Int32) ≤ 159 by decide), if_pos (show (97 : Int32) ≤ 159 by decide), if_pos (show (103 : Int32) ≤ 159 by decide), if_pos (show (121 : Int32) ≤ 159 by decide), if_pos (show (139 : Int32) ≤ 159 by decide), if_pos (show (153 : Int32) ≤ 159 by decide), if_neg (show ¬ (167 : Int32) ≤ 159 by decide), show (159 - 153 : Int32) = 6 by decide]
theorem NQ_159 {X Y : Nat} (hX : X < 18446744073709551616) (hY : Y < 18446744073709551616) : NQ 159 64 (Int64.ofNat X) (Int64.ofNat Y) := by
  refine NQ_0 (v := fo3 6 X Y) (fo3_lt 6 hX hY) (fun h O => ?_) (fun h a k => ?_)
  · obtain ⟨h', e, g⟩ := mR3_6 O hX hY
    refine ⟨h', ?_, g⟩
    rw [rkS_159, if_pos O.1, e, jr_bs]
  · rw [apS_159, if_pos k, cR3_6 hX hY, jr_bs]
theorem rkS_160 (h : pm_H) (x y : Int64) : fX16_reckons h 592 160 x y = if pm_kd h 592 = 16 then (fX16_real h 592 7 3 x y).bind fun v18 => some ((v18.1, v18.2)) else none := by
  unfold fX16_reckons
  rw [show fX16_operandOf 160 = 3 by decide, jr_let, if_neg (by decide), if_neg (by decide), if_pos (show (91 : Int32) ≤ 160 by decide), if_pos (show (103 : Int32) ≤ 160 by decide), if_pos (show (139 : Int32) ≤ 160 by decide), if_neg (show ¬ (167 : Int32) ≤ 160 by decide), if_neg (by decide), show (160 - 153 : Int32) = 7 by decide]
theorem apS_160 (h : pm_H) (a : Nat) (x y : Int64) : fX8_apply h a 160 x y = if pm_kd h a = 8 then (fX8_floating 3 7 x y).bind fun v18 => some ((v18, pm_setI h a 0 0)) else none := by
  unfold fX8_apply
  rw [if_pos (show (80 : Int32) ≤ 160 by decide), if_pos (show (91 : Int32) ≤ 160 by decide), if_pos (show (97 : Int32) ≤ 160 by decide), if_pos (show (103 : Int32) ≤ 160 by decide), if_pos (show (121 : Int32) ≤ 160 by decide), if_pos (show (139 : Int32) ≤ 160 by decide), if_pos (show (153 : Int32) ≤ 160 by decide), if_neg (show ¬ (167 : Int32) ≤ 160 by decide), show (160 - 153 : Int32) = 7 by decide]
theorem NQ_160 {X Y : Nat} (hX : X < 18446744073709551616) (hY : Y < 18446744073709551616) : NQ 160 64 (Int64.ofNat X) (Int64.ofNat Y) := by
  refine NQ_0 (v := fo3 7 X Y) (fo3_lt 7 hX hY) (fun h O => ?_) (fun h a k => ?_)
  · obtain ⟨h', e, g⟩ := mR3_7 O hX hY
    refine ⟨h', ?_, g⟩
    rw [rkS_160, if_pos O.1, e, jr_bs]
  · rw [apS_160, if_pos k, cR3_7 hX hY, jr_bs]
theorem rkS_161 (h : pm_H) (x y : Int64) : fX16_reckons h 592 161 x y = if pm_kd h 592 = 16 then (fX16_real h 592 8 3 x y).bind fun v18 => some ((v18.1, v18.2)) else none := by
  unfold fX16_reckons
  rw [show fX16_operandOf 161 = 3 by decide, jr_let, if_neg (by decide), if_neg (by decide), if_pos (show (91 : Int32) ≤ 161 by decide), if_pos (show (103 : Int32) ≤ 161 by decide), if_pos (show (139 : Int32) ≤ 161 by decide), if_neg (show ¬ (167 : Int32) ≤ 161 by decide), if_neg (by decide), show (161 - 153 : Int32) = 8 by decide]
theorem apS_161 (h : pm_H) (a : Nat) (x y : Int64) : fX8_apply h a 161 x y = if pm_kd h a = 8 then (fX8_floating 3 8 x y).bind fun v18 => some ((v18, pm_setI h a 0 0)) else none := by
  unfold fX8_apply
  rw [if_pos (show (80 : Int32) ≤ 161 by decide), if_pos (show (91 : Int32) ≤ 161 by decide), if_pos (show (97 : Int32) ≤ 161 by decide), if_pos (show (103 : Int32) ≤ 161 by decide), if_pos (show (121 : Int32) ≤ 161 by decide), if_pos (show (139 : Int32) ≤ 161 by decide), if_pos (show (153 : Int32) ≤ 161 by decide), if_neg (show ¬ (167 : Int32) ≤ 161 by decide), show (161 - 153 : Int32) = 8 by decide]
theorem NQ_161 {X Y : Nat} (hX : X < 18446744073709551616) (hY : Y < 18446744073709551616) : NQ 161 64 (Int64.ofNat X) (Int64.ofNat Y) := by
  refine NQ_0 (v := fo3 8 X Y) (fo3_lt 8 hX hY) (fun h O => ?_) (fun h a k => ?_)
  · obtain ⟨h', e, g⟩ := mR3_8 O hX hY
    refine ⟨h', ?_, g⟩
    rw [rkS_161, if_pos O.1, e, jr_bs]
  · rw [apS_161, if_pos k, cR3_8 hX hY, jr_bs]
theorem rkS_162 (h : pm_H) (x y : Int64) : fX16_reckons h 592 162 x y = if pm_kd h 592 = 16 then (fX16_real h 592 9 3 x y).bind fun v18 => some ((v18.1, v18.2)) else none := by
  unfold fX16_reckons
  rw [show fX16_operandOf 162 = 3 by decide, jr_let, if_neg (by decide), if_neg (by decide), if_pos (show (91 : Int32) ≤ 162 by decide), if_pos (show (103 : Int32) ≤ 162 by decide), if_pos (show (139 : Int32) ≤ 162 by decide), if_neg (show ¬ (167 : Int32) ≤ 162 by decide), if_neg (by decide), show (162 - 153 : Int32) = 9 by decide]
theorem apS_162 (h : pm_H) (a : Nat) (x y : Int64) : fX8_apply h a 162 x y = if pm_kd h a = 8 then (fX8_floating 3 9 x y).bind fun v18 => some ((v18, pm_setI h a 0 0)) else none := by
  unfold fX8_apply
  rw [if_pos (show (80 : Int32) ≤ 162 by decide), if_pos (show (91 : Int32) ≤ 162 by decide), if_pos (show (97 : Int32) ≤ 162 by decide), if_pos (show (103 : Int32) ≤ 162 by decide), if_pos (show (121 : Int32) ≤ 162 by decide), if_pos (show (139 : Int32) ≤ 162 by decide), if_pos (show (153 : Int32) ≤ 162 by decide), if_neg (show ¬ (167 : Int32) ≤ 162 by decide), show (162 - 153 : Int32) = 9 by decide]
theorem NQ_162 {X Y : Nat} (hX : X < 18446744073709551616) (hY : Y < 18446744073709551616) : NQ 162 64 (Int64.ofNat X) (Int64.ofNat Y) := by
  refine NQ_0 (v := fo3 9 X Y) (fo3_lt 9 hX hY) (fun h O => ?_) (fun h a k => ?_)
  · obtain ⟨h', e, g⟩ := mR3_9 O hX hY
    refine ⟨h', ?_, g⟩
    rw [rkS_162, if_pos O.1, e, jr_bs]
  · rw [apS_162, if_pos k, cR3_9 hX hY, jr_bs]
theorem rkS_163 (h : pm_H) (x y : Int64) : fX16_reckons h 592 163 x y = if pm_kd h 592 = 16 then (fX16_real h 592 10 3 x y).bind fun v18 => some ((v18.1, v18.2)) else none := by
  unfold fX16_reckons
  rw [show fX16_operandOf 163 = 3 by decide, jr_let, if_neg (by decide), if_neg (by decide), if_pos (show (91 : Int32) ≤ 163 by decide), if_pos (show (103 : Int32) ≤ 163 by decide), if_pos (show (139 : Int32) ≤ 163 by decide), if_neg (show ¬ (167 : Int32) ≤ 163 by decide), if_neg (by decide), show (163 - 153 : Int32) = 10 by decide]
theorem apS_163 (h : pm_H) (a : Nat) (x y : Int64) : fX8_apply h a 163 x y = if pm_kd h a = 8 then (fX8_floating 3 10 x y).bind fun v18 => some ((v18, pm_setI h a 0 0)) else none := by
  unfold fX8_apply
  rw [if_pos (show (80 : Int32) ≤ 163 by decide), if_pos (show (91 : Int32) ≤ 163 by decide), if_pos (show (97 : Int32) ≤ 163 by decide), if_pos (show (103 : Int32) ≤ 163 by decide), if_pos (show (121 : Int32) ≤ 163 by decide), if_pos (show (139 : Int32) ≤ 163 by decide), if_pos (show (153 : Int32) ≤ 163 by decide), if_neg (show ¬ (167 : Int32) ≤ 163 by decide), show (163 - 153 : Int32) = 10 by decide]
theorem NQ_163 {X Y : Nat} (hX : X < 18446744073709551616) (hY : Y < 18446744073709551616) : NQ 163 64 (Int64.ofNat X) (Int64.ofNat Y) := by
  refine NQ_0 (v := fo3 10 X Y) (fo3_lt 10 hX hY) (fun h O => ?_) (fun h a k => ?_)
  · obtain ⟨h', e, g⟩ := mR3_10 O hX hY
    refine ⟨h', ?_, g⟩
    rw [rkS_163, if_pos O.1, e, jr_bs]
  · rw [apS_163, if_pos k, cR3_10 hX hY, jr_bs]
theorem rkS_164 (h : pm_H) (x y : Int64) : fX16_reckons h 592 164 x y = if pm_kd h 592 = 16 then (fX16_real h 592 11 3 x y).bind fun v18 => some ((v18.1, v18.2)) else none := by
  unfold fX16_reckons
  rw [show fX16_operandOf 164 = 3 by decide, jr_let, if_neg (by decide), if_neg (by decide), if_pos (show (91 : Int32) ≤ 164 by decide), if_pos (show (103 : Int32) ≤ 164 by decide), if_pos (show (139 : Int32) ≤ 164 by decide), if_neg (show ¬ (167 : Int32) ≤ 164 by decide), if_neg (by decide), show (164 - 153 : Int32) = 11 by decide]
theorem apS_164 (h : pm_H) (a : Nat) (x y : Int64) : fX8_apply h a 164 x y = if pm_kd h a = 8 then (fX8_floating 3 11 x y).bind fun v18 => some ((v18, pm_setI h a 0 0)) else none := by
  unfold fX8_apply
  rw [if_pos (show (80 : Int32) ≤ 164 by decide), if_pos (show (91 : Int32) ≤ 164 by decide), if_pos (show (97 : Int32) ≤ 164 by decide), if_pos (show (103 : Int32) ≤ 164 by decide), if_pos (show (121 : Int32) ≤ 164 by decide), if_pos (show (139 : Int32) ≤ 164 by decide), if_pos (show (153 : Int32) ≤ 164 by decide), if_neg (show ¬ (167 : Int32) ≤ 164 by decide), show (164 - 153 : Int32) = 11 by decide]
theorem NQ_164 {X Y : Nat} (hX : X < 18446744073709551616) (hY : Y < 18446744073709551616) : NQ 164 64 (Int64.ofNat X) (Int64.ofNat Y) := by
  refine NQ_0 (v := fo3 11 X Y) (fo3_lt 11 hX hY) (fun h O => ?_) (fun h a k => ?_)
  · obtain ⟨h', e, g⟩ := mR3_11 O hX hY
    refine ⟨h', ?_, g⟩
    rw [rkS_164, if_pos O.1, e, jr_bs]
  · rw [apS_164, if_pos k, cR3_11 hX hY, jr_bs]
theorem rkS_165 (h : pm_H) (x y : Int64) : fX16_reckons h 592 165 x y = if pm_kd h 592 = 16 then (fX16_real h 592 12 3 x y).bind fun v18 => some ((v18.1, v18.2)) else none := by
  unfold fX16_reckons
  rw [show fX16_operandOf 165 = 3 by decide, jr_let, if_neg (by decide), if_neg (by decide), if_pos (show (91 : Int32) ≤ 165 by decide), if_pos (show (103 : Int32) ≤ 165 by decide), if_pos (show (139 : Int32) ≤ 165 by decide), if_neg (show ¬ (167 : Int32) ≤ 165 by decide), if_neg (by decide), show (165 - 153 : Int32) = 12 by decide]
theorem apS_165 (h : pm_H) (a : Nat) (x y : Int64) : fX8_apply h a 165 x y = if pm_kd h a = 8 then (fX8_floating 3 12 x y).bind fun v18 => some ((v18, pm_setI h a 0 0)) else none := by
  unfold fX8_apply
  rw [if_pos (show (80 : Int32) ≤ 165 by decide), if_pos (show (91 : Int32) ≤ 165 by decide), if_pos (show (97 : Int32) ≤ 165 by decide), if_pos (show (103 : Int32) ≤ 165 by decide), if_pos (show (121 : Int32) ≤ 165 by decide), if_pos (show (139 : Int32) ≤ 165 by decide), if_pos (show (153 : Int32) ≤ 165 by decide), if_neg (show ¬ (167 : Int32) ≤ 165 by decide), show (165 - 153 : Int32) = 12 by decide]
theorem NQ_165 {X Y : Nat} (hX : X < 18446744073709551616) (hY : Y < 18446744073709551616) : NQ 165 64 (Int64.ofNat X) (Int64.ofNat Y) := by
  refine NQ_0 (v := fo3 12 X Y) (fo3_lt 12 hX hY) (fun h O => ?_) (fun h a k => ?_)
  · obtain ⟨h', e, g⟩ := mR3_12 O hX hY
    refine ⟨h', ?_, g⟩
    rw [rkS_165, if_pos O.1, e, jr_bs]
  · rw [apS_165, if_pos k, cR3_12 hX hY, jr_bs]
theorem rkS_166 (h : pm_H) (x y : Int64) : fX16_reckons h 592 166 x y = if pm_kd h 592 = 16 then (fX16_real h 592 13 3 x y).bind fun v18 => some ((v18.1, v18.2)) else none := by
  unfold fX16_reckons
  rw [show fX16_operandOf 166 = 3 by decide, jr_let, if_neg (by decide), if_neg (by decide), if_pos (show (91 : Int32) ≤ 166 by decide), if_pos (show (103 : Int32) ≤ 166 by decide), if_pos (show (139 : Int32) ≤ 166 by decide), if_neg (show ¬ (167 : Int32) ≤ 166 by decide), if_neg (by decide), show (166 - 153 : Int32) = 13 by decide]
theorem apS_166 (h : pm_H) (a : Nat) (x y : Int64) : fX8_apply h a 166 x y = if pm_kd h a = 8 then (fX8_floating 3 13 x y).bind fun v18 => some ((v18, pm_setI h a 0 0)) else none := by
  unfold fX8_apply
  rw [if_pos (show (80 : Int32) ≤ 166 by decide), if_pos (show (91 : Int32) ≤ 166 by decide), if_pos (show (97 : Int32) ≤ 166 by decide), if_pos (show (103 : Int32) ≤ 166 by decide), if_pos (show (121 : Int32) ≤ 166 by decide), if_pos (show (139 : Int32) ≤ 166 by decide), if_pos (show (153 : Int32) ≤ 166 by decide), if_neg (show ¬ (167 : Int32) ≤ 166 by decide), show (166 - 153 : Int32) = 13 by decide]
theorem NQ_166 {X Y : Nat} (hX : X < 18446744073709551616) (hY : Y < 18446744073709551616) : NQ 166 64 (Int64.ofNat X) (Int64.ofNat Y) := by
  refine NQ_0 (v := fo3 13 X Y) (fo3_lt 13 hX hY) (fun h O => ?_) (fun h a k => ?_)
  · obtain ⟨h', e, g⟩ := mR3_13 O hX hY
    refine ⟨h', ?_, g⟩
    rw [rkS_166, if_pos O.1, e, jr_bs]
  · rw [apS_166, if_pos k, cR3_13 hX hY, jr_bs]
