/-! NUMBERS: every whole operator alike -/
theorem rkS_103 (h : pm_H) (x y : Int64) : fX16_reckons h 592 103 x y = if pm_kd h 592 = 16 then (fX16_short32 h 592 0 x.toInt32.toInt64 x y.toInt32.toInt64 y).bind fun v25 => some ((v25.1 &&& 4294967295, v25.2)) else none := by
  unfold fX16_reckons
  rw [show fX16_operandOf 103 = 0 by decide, jr_let, if_neg (by decide), if_neg (by decide), if_pos (show (91 : Int32) ≤ 103 by decide), if_pos (show (103 : Int32) ≤ 103 by decide), if_neg (show ¬ (139 : Int32) ≤ 103 by decide), if_pos rfl, show (103 - 103 : Int32) = 0 by decide]
theorem apS_103 (h : pm_H) (a : Nat) (x y : Int64) : fX8_apply h a 103 x y = if pm_kd h a = 8 then (fX8_whole32 (pm_setI h a 0 0) a 0 x.toInt32 y.toInt32).bind fun v24 => some ((v24.1 &&& 4294967295, v24.2)) else none := by
  unfold fX8_apply
  rw [if_pos (show (80 : Int32) ≤ 103 by decide), if_pos (show (91 : Int32) ≤ 103 by decide), if_pos (show (97 : Int32) ≤ 103 by decide), if_pos (show (103 : Int32) ≤ 103 by decide), if_neg (show ¬ (121 : Int32) ≤ 103 by decide), show (103 - 103 : Int32) = 0 by decide]
theorem NQ_103 {X Y : Nat} (hX : X < 4294967296) (hY : Y < 4294967296) : NQ 103 32 (Int64.ofNat X) (Int64.ofNat Y) := by
  refine NQ_D (show qS 0 (Int64.ofNat X) (Int64.ofNat Y) from qS_of (q32_0 hX)) (fun h k => ?_) (fun h a k => ?_)
  · rw [rkS_103, if_pos k]
    rfl
  · rw [apS_103, if_pos k]
    rfl
theorem rkS_104 (h : pm_H) (x y : Int64) : fX16_reckons h 592 104 x y = if pm_kd h 592 = 16 then (fX16_short32 h 592 1 x.toInt32.toInt64 x y.toInt32.toInt64 y).bind fun v25 => some ((v25.1 &&& 4294967295, v25.2)) else none := by
  unfold fX16_reckons
  rw [show fX16_operandOf 104 = 0 by decide, jr_let, if_neg (by decide), if_neg (by decide), if_pos (show (91 : Int32) ≤ 104 by decide), if_pos (show (103 : Int32) ≤ 104 by decide), if_neg (show ¬ (139 : Int32) ≤ 104 by decide), if_pos rfl, show (104 - 103 : Int32) = 1 by decide]
theorem apS_104 (h : pm_H) (a : Nat) (x y : Int64) : fX8_apply h a 104 x y = if pm_kd h a = 8 then (fX8_whole32 (pm_setI h a 0 0) a 1 x.toInt32 y.toInt32).bind fun v24 => some ((v24.1 &&& 4294967295, v24.2)) else none := by
  unfold fX8_apply
  rw [if_pos (show (80 : Int32) ≤ 104 by decide), if_pos (show (91 : Int32) ≤ 104 by decide), if_pos (show (97 : Int32) ≤ 104 by decide), if_pos (show (103 : Int32) ≤ 104 by decide), if_neg (show ¬ (121 : Int32) ≤ 104 by decide), show (104 - 103 : Int32) = 1 by decide]
theorem NQ_104 {X Y : Nat} (hX : X < 4294967296) (hY : Y < 4294967296) : NQ 104 32 (Int64.ofNat X) (Int64.ofNat Y) := by
  refine NQ_D (show qS 1 (Int64.ofNat X) (Int64.ofNat Y) from qS_of (q32_1 hX)) (fun h k => ?_) (fun h a k => ?_)
  · rw [rkS_104, if_pos k]
    rfl
  · rw [apS_104, if_pos k]
    rfl
theorem rkS_105 (h : pm_H) (x y : Int64) : fX16_reckons h 592 105 x y = if pm_kd h 592 = 16 then (fX16_short32 h 592 2 x.toInt32.toInt64 x y.toInt32.toInt64 y).bind fun v25 => some ((v25.1 &&& 4294967295, v25.2)) else none := by
  unfold fX16_reckons
  rw [show fX16_operandOf 105 = 0 by decide, jr_let, if_neg (by decide), if_neg (by decide), if_pos (show (91 : Int32) ≤ 105 by decide), if_pos (show (103 : Int32) ≤ 105 by decide), if_neg (show ¬ (139 : Int32) ≤ 105 by decide), if_pos rfl, show (105 - 103 : Int32) = 2 by decide]
theorem apS_105 (h : pm_H) (a : Nat) (x y : Int64) : fX8_apply h a 105 x y = if pm_kd h a = 8 then (fX8_whole32 (pm_setI h a 0 0) a 2 x.toInt32 y.toInt32).bind fun v24 => some ((v24.1 &&& 4294967295, v24.2)) else none := by
  unfold fX8_apply
  rw [if_pos (show (80 : Int32) ≤ 105 by decide), if_pos (show (91 : Int32) ≤ 105 by decide), if_pos (show (97 : Int32) ≤ 105 by decide), if_pos (show (103 : Int32) ≤ 105 by decide), if_neg (show ¬ (121 : Int32) ≤ 105 by decide), show (105 - 103 : Int32) = 2 by decide]
theorem NQ_105 {X Y : Nat} (hX : X < 4294967296) (hY : Y < 4294967296) : NQ 105 32 (Int64.ofNat X) (Int64.ofNat Y) := by
  refine NQ_D (show qS 2 (Int64.ofNat X) (Int64.ofNat Y) from qS_of (q32_2 hX)) (fun h k => ?_) (fun h a k => ?_)
  · rw [rkS_105, if_pos k]
    rfl
  · rw [apS_105, if_pos k]
    rfl
theorem rkS_106 (h : pm_H) (x y : Int64) : fX16_reckons h 592 106 x y = if pm_kd h 592 = 16 then (fX16_short32 h 592 3 x.toInt32.toInt64 x y.toInt32.toInt64 y).bind fun v25 => some ((v25.1 &&& 4294967295, v25.2)) else none := by
  unfold fX16_reckons
  rw [show fX16_operandOf 106 = 0 by decide, jr_let, if_neg (by decide), if_neg (by decide), if_pos (show (91 : Int32) ≤ 106 by decide), if_pos (show (103 : Int32) ≤ 106 by decide), if_neg (show ¬ (139 : Int32) ≤ 106 by decide), if_pos rfl, show (106 - 103 : Int32) = 3 by decide]
theorem apS_106 (h : pm_H) (a : Nat) (x y : Int64) : fX8_apply h a 106 x y = if pm_kd h a = 8 then (fX8_whole32 (pm_setI h a 0 0) a 3 x.toInt32 y.toInt32).bind fun v24 => some ((v24.1 &&& 4294967295, v24.2)) else none := by
  unfold fX8_apply
  rw [if_pos (show (80 : Int32) ≤ 106 by decide), if_pos (show (91 : Int32) ≤ 106 by decide), if_pos (show (97 : Int32) ≤ 106 by decide), if_pos (show (103 : Int32) ≤ 106 by decide), if_neg (show ¬ (121 : Int32) ≤ 106 by decide), show (106 - 103 : Int32) = 3 by decide]
theorem NQ_106 {X Y : Nat} (hX : X < 4294967296) (hY : Y < 4294967296) : NQ 106 32 (Int64.ofNat X) (Int64.ofNat Y) := by
  refine NQ_D (show qS 3 (Int64.ofNat X) (Int64.ofNat Y) from qS_of (q32_3)) (fun h k => ?_) (fun h a k => ?_)
  · rw [rkS_106, if_pos k]
    rfl
  · rw [apS_106, if_pos k]
    rfl
theorem rkS_107 (h : pm_H) (x y : Int64) : fX16_reckons h 592 107 x y = if pm_kd h 592 = 16 then (fX16_short32 h 592 4 x.toInt32.toInt64 x y.toInt32.toInt64 y).bind fun v25 => some ((v25.1 &&& 4294967295, v25.2)) else none := by
  unfold fX16_reckons
  rw [show fX16_operandOf 107 = 0 by decide, jr_let, if_neg (by decide), if_neg (by decide), if_pos (show (91 : Int32) ≤ 107 by decide), if_pos (show (103 : Int32) ≤ 107 by decide), if_neg (show ¬ (139 : Int32) ≤ 107 by decide), if_pos rfl, show (107 - 103 : Int32) = 4 by decide]
theorem apS_107 (h : pm_H) (a : Nat) (x y : Int64) : fX8_apply h a 107 x y = if pm_kd h a = 8 then (fX8_whole32 (pm_setI h a 0 0) a 4 x.toInt32 y.toInt32).bind fun v24 => some ((v24.1 &&& 4294967295, v24.2)) else none := by
  unfold fX8_apply
  rw [if_pos (show (80 : Int32) ≤ 107 by decide), if_pos (show (91 : Int32) ≤ 107 by decide), if_pos (show (97 : Int32) ≤ 107 by decide), if_pos (show (103 : Int32) ≤ 107 by decide), if_neg (show ¬ (121 : Int32) ≤ 107 by decide), show (107 - 103 : Int32) = 4 by decide]
theorem NQ_107 {X Y : Nat} (hX : X < 4294967296) (hY : Y < 4294967296) : NQ 107 32 (Int64.ofNat X) (Int64.ofNat Y) := by
  refine NQ_D (show qS 4 (Int64.ofNat X) (Int64.ofNat Y) from qS_of (q32_4 hY)) (fun h k => ?_) (fun h a k => ?_)
  · rw [rkS_107, if_pos k]
    rfl
  · rw [apS_107, if_pos k]
    rfl
theorem rkS_108 (h : pm_H) (x y : Int64) : fX16_reckons h 592 108 x y = if pm_kd h 592 = 16 then (fX16_short32 h 592 5 x.toInt32.toInt64 x y.toInt32.toInt64 y).bind fun v25 => some ((v25.1 &&& 4294967295, v25.2)) else none := by
  unfold fX16_reckons
  rw [show fX16_operandOf 108 = 0 by decide, jr_let, if_neg (by decide), if_neg (by decide), if_pos (show (91 : Int32) ≤ 108 by decide), if_pos (show (103 : Int32) ≤ 108 by decide), if_neg (show ¬ (139 : Int32) ≤ 108 by decide), if_pos rfl, show (108 - 103 : Int32) = 5 by decide]
theorem apS_108 (h : pm_H) (a : Nat) (x y : Int64) : fX8_apply h a 108 x y = if pm_kd h a = 8 then (fX8_whole32 (pm_setI h a 0 0) a 5 x.toInt32 y.toInt32).bind fun v24 => some ((v24.1 &&& 4294967295, v24.2)) else none := by
  unfold fX8_apply
  rw [if_pos (show (80 : Int32) ≤ 108 by decide), if_pos (show (91 : Int32) ≤ 108 by decide), if_pos (show (97 : Int32) ≤ 108 by decide), if_pos (show (103 : Int32) ≤ 108 by decide), if_neg (show ¬ (121 : Int32) ≤ 108 by decide), show (108 - 103 : Int32) = 5 by decide]
theorem NQ_108 {X Y : Nat} (hX : X < 4294967296) (hY : Y < 4294967296) : NQ 108 32 (Int64.ofNat X) (Int64.ofNat Y) := by
  refine NQ_D (show qS 5 (Int64.ofNat X) (Int64.ofNat Y) from qS_of (q32_5)) (fun h k => ?_) (fun h a k => ?_)
  · rw [rkS_108, if_pos k]
    rfl
  · rw [apS_108, if_pos k]
    rfl
theorem rkS_109 (h : pm_H) (x y : Int64) : fX16_reckons h 592 109 x y = if pm_kd h 592 = 16 then (fX16_short32 h 592 6 x.toInt32.toInt64 x y.toInt32.toInt64 y).bind fun v25 => some ((v25.1 &&& 4294967295, v25.2)) else none := by
  unfold fX16_reckons
  rw [show fX16_operandOf 109 = 0 by decide, jr_let, if_neg (by decide), if_neg (by decide), if_pos (show (91 : Int32) ≤ 109 by decide), if_pos (show (103 : Int32) ≤ 109 by decide), if_neg (show ¬ (139 : Int32) ≤ 109 by decide), if_pos rfl, show (109 - 103 : Int32) = 6 by decide]
theorem apS_109 (h : pm_H) (a : Nat) (x y : Int64) : fX8_apply h a 109 x y = if pm_kd h a = 8 then (fX8_whole32 (pm_setI h a 0 0) a 6 x.toInt32 y.toInt32).bind fun v24 => some ((v24.1 &&& 4294967295, v24.2)) else none := by
  unfold fX8_apply
  rw [if_pos (show (80 : Int32) ≤ 109 by decide), if_pos (show (91 : Int32) ≤ 109 by decide), if_pos (show (97 : Int32) ≤ 109 by decide), if_pos (show (103 : Int32) ≤ 109 by decide), if_neg (show ¬ (121 : Int32) ≤ 109 by decide), show (109 - 103 : Int32) = 6 by decide]
theorem NQ_109 {X Y : Nat} (hX : X < 4294967296) (hY : Y < 4294967296) : NQ 109 32 (Int64.ofNat X) (Int64.ofNat Y) := by
  refine NQ_D (show qS 6 (Int64.ofNat X) (Int64.ofNat Y) from qS_6 _ _) (fun h k => ?_) (fun h a k => ?_)
  · rw [rkS_109, if_pos k]
    rfl
  · rw [apS_109, if_pos k]
    rfl
theorem rkS_110 (h : pm_H) (x y : Int64) : fX16_reckons h 592 110 x y = if pm_kd h 592 = 16 then (fX16_short32 h 592 7 x.toInt32.toInt64 x y.toInt32.toInt64 y).bind fun v25 => some ((v25.1 &&& 4294967295, v25.2)) else none := by
  unfold fX16_reckons
  rw [show fX16_operandOf 110 = 0 by decide, jr_let, if_neg (by decide), if_neg (by decide), if_pos (show (91 : Int32) ≤ 110 by decide), if_pos (show (103 : Int32) ≤ 110 by decide), if_neg (show ¬ (139 : Int32) ≤ 110 by decide), if_pos rfl, show (110 - 103 : Int32) = 7 by decide]
theorem apS_110 (h : pm_H) (a : Nat) (x y : Int64) : fX8_apply h a 110 x y = if pm_kd h a = 8 then (fX8_whole32 (pm_setI h a 0 0) a 7 x.toInt32 y.toInt32).bind fun v24 => some ((v24.1 &&& 4294967295, v24.2)) else none := by
  unfold fX8_apply
  rw [if_pos (show (80 : Int32) ≤ 110 by decide), if_pos (show (91 : Int32) ≤ 110 by decide), if_pos (show (97 : Int32) ≤ 110 by decide), if_pos (show (103 : Int32) ≤ 110 by decide), if_neg (show ¬ (121 : Int32) ≤ 110 by decide), show (110 - 103 : Int32) = 7 by decide]
theorem NQ_110 {X Y : Nat} (hX : X < 4294967296) (hY : Y < 4294967296) : NQ 110 32 (Int64.ofNat X) (Int64.ofNat Y) := by
  refine NQ_D (show qS 7 (Int64.ofNat X) (Int64.ofNat Y) from qS_7 hX hY) (fun h k => ?_) (fun h a k => ?_)
  · rw [rkS_110, if_pos k]
    rfl
  · rw [apS_110, if_pos k]
    rfl
theorem rkS_111 (h : pm_H) (x y : Int64) : fX16_reckons h 592 111 x y = if pm_kd h 592 = 16 then (fX16_short32 h 592 8 x.toInt32.toInt64 x y.toInt32.toInt64 y).bind fun v25 => some ((v25.1 &&& 4294967295, v25.2)) else none := by
  unfold fX16_reckons
  rw [show fX16_operandOf 111 = 0 by decide, jr_let, if_neg (by decide), if_neg (by decide), if_pos (show (91 : Int32) ≤ 111 by decide), if_pos (show (103 : Int32) ≤ 111 by decide), if_neg (show ¬ (139 : Int32) ≤ 111 by decide), if_pos rfl, show (111 - 103 : Int32) = 8 by decide]
theorem apS_111 (h : pm_H) (a : Nat) (x y : Int64) : fX8_apply h a 111 x y = if pm_kd h a = 8 then (fX8_whole32 (pm_setI h a 0 0) a 8 x.toInt32 y.toInt32).bind fun v24 => some ((v24.1 &&& 4294967295, v24.2)) else none := by
  unfold fX8_apply
  rw [if_pos (show (80 : Int32) ≤ 111 by decide), if_pos (show (91 : Int32) ≤ 111 by decide), if_pos (show (97 : Int32) ≤ 111 by decide), if_pos (show (103 : Int32) ≤ 111 by decide), if_neg (show ¬ (121 : Int32) ≤ 111 by decide), show (111 - 103 : Int32) = 8 by decide]
theorem NQ_111 {X Y : Nat} (hX : X < 4294967296) (hY : Y < 4294967296) : NQ 111 32 (Int64.ofNat X) (Int64.ofNat Y) := by
  refine NQ_D (show qS 8 (Int64.ofNat X) (Int64.ofNat Y) from qS_8 _ _) (fun h k => ?_) (fun h a k => ?_)
  · rw [rkS_111, if_pos k]
    rfl
  · rw [apS_111, if_pos k]
    rfl
theorem rkS_112 (h : pm_H) (x y : Int64) : fX16_reckons h 592 112 x y = if pm_kd h 592 = 16 then (fX16_short32 h 592 9 x.toInt32.toInt64 x y.toInt32.toInt64 y).bind fun v25 => some ((v25.1 &&& 4294967295, v25.2)) else none := by
  unfold fX16_reckons
  rw [show fX16_operandOf 112 = 0 by decide, jr_let, if_neg (by decide), if_neg (by decide), if_pos (show (91 : Int32) ≤ 112 by decide), if_pos (show (103 : Int32) ≤ 112 by decide), if_neg (show ¬ (139 : Int32) ≤ 112 by decide), if_pos rfl, show (112 - 103 : Int32) = 9 by decide]
theorem apS_112 (h : pm_H) (a : Nat) (x y : Int64) : fX8_apply h a 112 x y = if pm_kd h a = 8 then (fX8_whole32 (pm_setI h a 0 0) a 9 x.toInt32 y.toInt32).bind fun v24 => some ((v24.1 &&& 4294967295, v24.2)) else none := by
  unfold fX8_apply
  rw [if_pos (show (80 : Int32) ≤ 112 by decide), if_pos (show (91 : Int32) ≤ 112 by decide), if_pos (show (97 : Int32) ≤ 112 by decide), if_pos (show (103 : Int32) ≤ 112 by decide), if_neg (show ¬ (121 : Int32) ≤ 112 by decide), show (112 - 103 : Int32) = 9 by decide]
theorem NQ_112 {X Y : Nat} (hX : X < 4294967296) (hY : Y < 4294967296) : NQ 112 32 (Int64.ofNat X) (Int64.ofNat Y) := by
  refine NQ_D (show qS 9 (Int64.ofNat X) (Int64.ofNat Y) from qS_9 hX hY) (fun h k => ?_) (fun h a k => ?_)
  · rw [rkS_112, if_pos k]
    rfl
  · rw [apS_112, if_pos k]
    rfl
theorem rkS_113 (h : pm_H) (x y : Int64) : fX16_reckons h 592 113 x y = if pm_kd h 592 = 16 then (fX16_short32 h 592 10 x.toInt32.toInt64 x y.toInt32.toInt64 y).bind fun v25 => some ((v25.1 &&& 4294967295, v25.2)) else none := by
  unfold fX16_reckons
  rw [show fX16_operandOf 113 = 0 by decide, jr_let, if_neg (by decide), if_neg (by decide), if_pos (show (91 : Int32) ≤ 113 by decide), if_pos (show (103 : Int32) ≤ 113 by decide), if_neg (show ¬ (139 : Int32) ≤ 113 by decide), if_pos rfl, show (113 - 103 : Int32) = 10 by decide]
theorem apS_113 (h : pm_H) (a : Nat) (x y : Int64) : fX8_apply h a 113 x y = if pm_kd h a = 8 then (fX8_whole32 (pm_setI h a 0 0) a 10 x.toInt32 y.toInt32).bind fun v24 => some ((v24.1 &&& 4294967295, v24.2)) else none := by
  unfold fX8_apply
  rw [if_pos (show (80 : Int32) ≤ 113 by decide), if_pos (show (91 : Int32) ≤ 113 by decide), if_pos (show (97 : Int32) ≤ 113 by decide), if_pos (show (103 : Int32) ≤ 113 by decide), if_neg (show ¬ (121 : Int32) ≤ 113 by decide), show (113 - 103 : Int32) = 10 by decide]
theorem NQ_113 {X Y : Nat} (hX : X < 4294967296) (hY : Y < 4294967296) : NQ 113 32 (Int64.ofNat X) (Int64.ofNat Y) := by
  refine NQ_D (show qS 10 (Int64.ofNat X) (Int64.ofNat Y) from qS_of (q32_10)) (fun h k => ?_) (fun h a k => ?_)
  · rw [rkS_113, if_pos k]
    rfl
  · rw [apS_113, if_pos k]
    rfl
theorem rkS_114 (h : pm_H) (x y : Int64) : fX16_reckons h 592 114 x y = if pm_kd h 592 = 16 then (fX16_short32 h 592 11 x.toInt32.toInt64 x y.toInt32.toInt64 y).bind fun v25 => some ((v25.1 &&& 4294967295, v25.2)) else none := by
  unfold fX16_reckons
  rw [show fX16_operandOf 114 = 0 by decide, jr_let, if_neg (by decide), if_neg (by decide), if_pos (show (91 : Int32) ≤ 114 by decide), if_pos (show (103 : Int32) ≤ 114 by decide), if_neg (show ¬ (139 : Int32) ≤ 114 by decide), if_pos rfl, show (114 - 103 : Int32) = 11 by decide]
theorem apS_114 (h : pm_H) (a : Nat) (x y : Int64) : fX8_apply h a 114 x y = if pm_kd h a = 8 then (fX8_whole32 (pm_setI h a 0 0) a 11 x.toInt32 y.toInt32).bind fun v24 => some ((v24.1 &&& 4294967295, v24.2)) else none := by
  unfold fX8_apply
  rw [if_pos (show (80 : Int32) ≤ 114 by decide), if_pos (show (91 : Int32) ≤ 114 by decide), if_pos (show (97 : Int32) ≤ 114 by decide), if_pos (show (103 : Int32) ≤ 114 by decide), if_neg (show ¬ (121 : Int32) ≤ 114 by decide), show (114 - 103 : Int32) = 11 by decide]
theorem NQ_114 {X Y : Nat} (hX : X < 4294967296) (hY : Y < 4294967296) : NQ 114 32 (Int64.ofNat X) (Int64.ofNat Y) := by
  refine NQ_D (show qS 11 (Int64.ofNat X) (Int64.ofNat Y) from qS_of (q32_11)) (fun h k => ?_) (fun h a k => ?_)
  · rw [rkS_114, if_pos k]
    rfl
  · rw [apS_114, if_pos k]
    rfl
theorem rkS_115 (h : pm_H) (x y : Int64) : fX16_reckons h 592 115 x y = if pm_kd h 592 = 16 then (fX16_short32 h 592 12 x.toInt32.toInt64 x y.toInt32.toInt64 y).bind fun v25 => some ((v25.1 &&& 4294967295, v25.2)) else none := by
  unfold fX16_reckons
  rw [show fX16_operandOf 115 = 0 by decide, jr_let, if_neg (by decide), if_neg (by decide), if_pos (show (91 : Int32) ≤ 115 by decide), if_pos (show (103 : Int32) ≤ 115 by decide), if_neg (show ¬ (139 : Int32) ≤ 115 by decide), if_pos rfl, show (115 - 103 : Int32) = 12 by decide]
theorem apS_115 (h : pm_H) (a : Nat) (x y : Int64) : fX8_apply h a 115 x y = if pm_kd h a = 8 then (fX8_whole32 (pm_setI h a 0 0) a 12 x.toInt32 y.toInt32).bind fun v24 => some ((v24.1 &&& 4294967295, v24.2)) else none := by
  unfold fX8_apply
  rw [if_pos (show (80 : Int32) ≤ 115 by decide), if_pos (show (91 : Int32) ≤ 115 by decide), if_pos (show (97 : Int32) ≤ 115 by decide), if_pos (show (103 : Int32) ≤ 115 by decide), if_neg (show ¬ (121 : Int32) ≤ 115 by decide), show (115 - 103 : Int32) = 12 by decide]
theorem NQ_115 {X Y : Nat} (hX : X < 4294967296) (hY : Y < 4294967296) : NQ 115 32 (Int64.ofNat X) (Int64.ofNat Y) := by
  refine NQ_D (show qS 12 (Int64.ofNat X) (Int64.ofNat Y) from qS_of (q32_12)) (fun h k => ?_) (fun h a k => ?_)
  · rw [rkS_115, if_pos k]
    rfl
  · rw [apS_115, if_pos k]
    rfl
theorem rkS_116 (h : pm_H) (x y : Int64) : fX16_reckons h 592 116 x y = if pm_kd h 592 = 16 then (fX16_short32 h 592 13 x.toInt32.toInt64 x y.toInt32.toInt64 y).bind fun v25 => some ((v25.1 &&& 4294967295, v25.2)) else none := by
  unfold fX16_reckons
  rw [show fX16_operandOf 116 = 0 by decide, jr_let, if_neg (by decide), if_neg (by decide), if_pos (show (91 : Int32) ≤ 116 by decide), if_pos (show (103 : Int32) ≤ 116 by decide), if_neg (show ¬ (139 : Int32) ≤ 116 by decide), if_pos rfl, show (116 - 103 : Int32) = 13 by decide]
theorem apS_116 (h : pm_H) (a : Nat) (x y : Int64) : fX8_apply h a 116 x y = if pm_kd h a = 8 then (fX8_whole32 (pm_setI h a 0 0) a 13 x.toInt32 y.toInt32).bind fun v24 => some ((v24.1 &&& 4294967295, v24.2)) else none := by
  unfold fX8_apply
  rw [if_pos (show (80 : Int32) ≤ 116 by decide), if_pos (show (91 : Int32) ≤ 116 by decide), if_pos (show (97 : Int32) ≤ 116 by decide), if_pos (show (103 : Int32) ≤ 116 by decide), if_neg (show ¬ (121 : Int32) ≤ 116 by decide), show (116 - 103 : Int32) = 13 by decide]
theorem NQ_116 {X Y : Nat} (hX : X < 4294967296) (hY : Y < 4294967296) : NQ 116 32 (Int64.ofNat X) (Int64.ofNat Y) := by
  refine NQ_D (show qS 13 (Int64.ofNat X) (Int64.ofNat Y) from qS_of (q32_13)) (fun h k => ?_) (fun h a k => ?_)
  · rw [rkS_116, if_pos k]
    rfl
  · rw [apS_116, if_pos k]
    rfl
theorem rkS_117 (h : pm_H) (x y : Int64) : fX16_reckons h 592 117 x y = if pm_kd h 592 = 16 then (fX16_short32 h 592 14 x.toInt32.toInt64 x y.toInt32.toInt64 y).bind fun v25 => some ((v25.1 &&& 4294967295, v25.2)) else none := by
  unfold fX16_reckons
  rw [show fX16_operandOf 117 = 0 by decide, jr_let, if_neg (by decide), if_neg (by decide), if_pos (show (91 : Int32) ≤ 117 by decide), if_pos (show (103 : Int32) ≤ 117 by decide), if_neg (show ¬ (139 : Int32) ≤ 117 by decide), if_pos rfl, show (117 - 103 : Int32) = 14 by decide]
theorem apS_117 (h : pm_H) (a : Nat) (x y : Int64) : fX8_apply h a 117 x y = if pm_kd h a = 8 then (fX8_whole32 (pm_setI h a 0 0) a 14 x.toInt32 y.toInt32).bind fun v24 => some ((v24.1 &&& 4294967295, v24.2)) else none := by
  unfold fX8_apply
  rw [if_pos (show (80 : Int32) ≤ 117 by decide), if_pos (show (91 : Int32) ≤ 117 by decide), if_pos (show (97 : Int32) ≤ 117 by decide), if_pos (show (103 : Int32) ≤ 117 by decide), if_neg (show ¬ (121 : Int32) ≤ 117 by decide), show (117 - 103 : Int32) = 14 by decide]
theorem NQ_117 {X Y : Nat} (hX : X < 4294967296) (hY : Y < 4294967296) : NQ 117 32 (Int64.ofNat X) (Int64.ofNat Y) := by
  refine NQ_D (show qS 14 (Int64.ofNat X) (Int64.ofNat Y) from qS_of (q32_14)) (fun h k => ?_) (fun h a k => ?_)
  · rw [rkS_117, if_pos k]
    rfl
  · rw [apS_117, if_pos k]
    rfl
theorem rkS_118 (h : pm_H) (x y : Int64) : fX16_reckons h 592 118 x y = if pm_kd h 592 = 16 then (fX16_short32 h 592 15 x.toInt32.toInt64 x y.toInt32.toInt64 y).bind fun v25 => some ((v25.1 &&& 4294967295, v25.2)) else none := by
  unfold fX16_reckons
  rw [show fX16_operandOf 118 = 0 by decide, jr_let, if_neg (by decide), if_neg (by decide), if_pos (show (91 : Int32) ≤ 118 by decide), if_pos (show (103 : Int32) ≤ 118 by decide), if_neg (show ¬ (139 : Int32) ≤ 118 by decide), if_pos rfl, show (118 - 103 : Int32) = 15 by decide]
theorem apS_118 (h : pm_H) (a : Nat) (x y : Int64) : fX8_apply h a 118 x y = if pm_kd h a = 8 then (fX8_whole32 (pm_setI h a 0 0) a 15 x.toInt32 y.toInt32).bind fun v24 => some ((v24.1 &&& 4294967295, v24.2)) else none := by
  unfold fX8_apply
  rw [if_pos (show (80 : Int32) ≤ 118 by decide), if_pos (show (91 : Int32) ≤ 118 by decide), if_pos (show (97 : Int32) ≤ 118 by decide), if_pos (show (103 : Int32) ≤ 118 by decide), if_neg (show ¬ (121 : Int32) ≤ 118 by decide), show (118 - 103 : Int32) = 15 by decide]
theorem NQ_118 {X Y : Nat} (hX : X < 4294967296) (hY : Y < 4294967296) : NQ 118 32 (Int64.ofNat X) (Int64.ofNat Y) := by
  refine NQ_D (show qS 15 (Int64.ofNat X) (Int64.ofNat Y) from qS_of (q32_15 hX)) (fun h k => ?_) (fun h a k => ?_)
  · rw [rkS_118, if_pos k]
    rfl
  · rw [apS_118, if_pos k]
    rfl
theorem rkS_119 (h : pm_H) (x y : Int64) : fX16_reckons h 592 119 x y = if pm_kd h 592 = 16 then (fX16_short32 h 592 16 x.toInt32.toInt64 x y.toInt32.toInt64 y).bind fun v25 => some ((v25.1 &&& 4294967295, v25.2)) else none := by
  unfold fX16_reckons
  rw [show fX16_operandOf 119 = 0 by decide, jr_let, if_neg (by decide), if_neg (by decide), if_pos (show (91 : Int32) ≤ 119 by decide), if_pos (show (103 : Int32) ≤ 119 by decide), if_neg (show ¬ (139 : Int32) ≤ 119 by decide), if_pos rfl, show (119 - 103 : Int32) = 16 by decide]
theorem apS_119 (h : pm_H) (a : Nat) (x y : Int64) : fX8_apply h a 119 x y = if pm_kd h a = 8 then (fX8_whole32 (pm_setI h a 0 0) a 16 x.toInt32 y.toInt32).bind fun v24 => some ((v24.1 &&& 4294967295, v24.2)) else none := by
  unfold fX8_apply
  rw [if_pos (show (80 : Int32) ≤ 119 by decide), if_pos (show (91 : Int32) ≤ 119 by decide), if_pos (show (97 : Int32) ≤ 119 by decide), if_pos (show (103 : Int32) ≤ 119 by decide), if_neg (show ¬ (121 : Int32) ≤ 119 by decide), show (119 - 103 : Int32) = 16 by decide]
theorem NQ_119 {X Y : Nat} (hX : X < 4294967296) (hY : Y < 4294967296) : NQ 119 32 (Int64.ofNat X) (Int64.ofNat Y) := by
  refine NQ_D (show qS 16 (Int64.ofNat X) (Int64.ofNat Y) from qS_of (q32_16 hX hY)) (fun h k => ?_) (fun h a k => ?_)
  · rw [rkS_119, if_pos k]
    rfl
  · rw [apS_119, if_pos k]
    rfl
theorem rkS_120 (h : pm_H) (x y : Int64) : fX16_reckons h 592 120 x y = if pm_kd h 592 = 16 then (fX16_short32 h 592 17 x.toInt32.toInt64 x y.toInt32.toInt64 y).bind fun v25 => some ((v25.1 &&& 4294967295, v25.2)) else none := by
  unfold fX16_reckons
  rw [show fX16_operandOf 120 = 0 by decide, jr_let, if_neg (by decide), if_neg (by decide), if_pos (show (91 : Int32) ≤ 120 by decide), if_pos (show (103 : Int32) ≤ 120 by decide), if_neg (show ¬ (139 : Int32) ≤ 120 by decide), if_pos rfl, show (120 - 103 : Int32) = 17 by decide]
theorem apS_120 (h : pm_H) (a : Nat) (x y : Int64) : fX8_apply h a 120 x y = if pm_kd h a = 8 then (fX8_whole32 (pm_setI h a 0 0) a 17 x.toInt32 y.toInt32).bind fun v24 => some ((v24.1 &&& 4294967295, v24.2)) else none := by
  unfold fX8_apply
  rw [if_pos (show (80 : Int32) ≤ 120 by decide), if_pos (show (91 : Int32) ≤ 120 by decide), if_pos (show (97 : Int32) ≤ 120 by decide), if_pos (show (103 : Int32) ≤ 120 by decide), if_neg (show ¬ (121 : Int32) ≤ 120 by decide), show (120 - 103 : Int32) = 17 by decide]
theorem NQ_120 {X Y : Nat} (hX : X < 4294967296) (hY : Y < 4294967296) : NQ 120 32 (Int64.ofNat X) (Int64.ofNat Y) := by
  refine NQ_D (show qS 17 (Int64.ofNat X) (Int64.ofNat Y) from qS_of (q32_17 hX hY)) (fun h k => ?_) (fun h a k => ?_)
  · rw [rkS_120, if_pos k]
    rfl
  · rw [apS_120, if_pos k]
    rfl
theorem rkS_121 (h : pm_H) (x y : Int64) : fX16_reckons h 592 121 x y = if pm_kd h 592 = 16 then (fX16_long64 h 592 0 x y).bind fun v22 => some ((v22.1, v22.2)) else none := by
  unfold fX16_reckons
  rw [show fX16_operandOf 121 = 1 by decide, jr_let, if_neg (by decide), if_neg (by decide), if_pos (show (91 : Int32) ≤ 121 by decide), if_pos (show (103 : Int32) ≤ 121 by decide), if_neg (show ¬ (139 : Int32) ≤ 121 by decide), if_neg (by decide), show (121 - 121 : Int32) = 0 by decide]
theorem apS_121 (h : pm_H) (a : Nat) (x y : Int64) : fX8_apply h a 121 x y = if pm_kd h a = 8 then (fX8_whole64 (pm_setI h a 0 0) a 0 x y).bind fun v22 => some ((v22.1, v22.2)) else none := by
  unfold fX8_apply
  rw [if_pos (show (80 : Int32) ≤ 121 by decide), if_pos (show (91 : Int32) ≤ 121 by decide), if_pos (show (97 : Int32) ≤ 121 by decide), if_pos (show (103 : Int32) ≤ 121 by decide), if_pos (show (121 : Int32) ≤ 121 by decide), if_neg (show ¬ (139 : Int32) ≤ 121 by decide), show (121 - 121 : Int32) = 0 by decide]
theorem NQ_121 {X Y : Nat} (hX : X < 18446744073709551616) (hY : Y < 18446744073709551616) : NQ 121 64 (Int64.ofNat X) (Int64.ofNat Y) := by
  refine NQ_D (show qL 0 (Int64.ofNat X) (Int64.ofNat Y) from qL_0 hX) (fun h k => ?_) (fun h a k => ?_)
  · rw [rkS_121, if_pos k]
    rfl
  · rw [apS_121, if_pos k]
    rfl
theorem rkS_122 (h : pm_H) (x y : Int64) : fX16_reckons h 592 122 x y = if pm_kd h 592 = 16 then (fX16_long64 h 592 1 x y).bind fun v22 => some ((v22.1, v22.2)) else none := by
  unfold fX16_reckons
  rw [show fX16_operandOf 122 = 1 by decide, jr_let, if_neg (by decide), if_neg (by decide), if_pos (show (91 : Int32) ≤ 122 by decide), if_pos (show (103 : Int32) ≤ 122 by decide), if_neg (show ¬ (139 : Int32) ≤ 122 by decide), if_neg (by decide), show (122 - 121 : Int32) = 1 by decide]
theorem apS_122 (h : pm_H) (a : Nat) (x y : Int64) : fX8_apply h a 122 x y = if pm_kd h a = 8 then (fX8_whole64 (pm_setI h a 0 0) a 1 x y).bind fun v22 => some ((v22.1, v22.2)) else none := by
  unfold fX8_apply
  rw [if_pos (show (80 : Int32) ≤ 122 by decide), if_pos (show (91 : Int32) ≤ 122 by decide), if_pos (show (97 : Int32) ≤ 122 by decide), if_pos (show (103 : Int32) ≤ 122 by decide), if_pos (show (121 : Int32) ≤ 122 by decide), if_neg (show ¬ (139 : Int32) ≤ 122 by decide), show (122 - 121 : Int32) = 1 by decide]
theorem NQ_122 {X Y : Nat} (hX : X < 18446744073709551616) (hY : Y < 18446744073709551616) : NQ 122 64 (Int64.ofNat X) (Int64.ofNat Y) := by
  refine NQ_D (show qL 1 (Int64.ofNat X) (Int64.ofNat Y) from qL_1 hX) (fun h k => ?_) (fun h a k => ?_)
  · rw [rkS_122, if_pos k]
    rfl
  · rw [apS_122, if_pos k]
    rfl
theorem rkS_123 (h : pm_H) (x y : Int64) : fX16_reckons h 592 123 x y = if pm_kd h 592 = 16 then (fX16_long64 h 592 2 x y).bind fun v22 => some ((v22.1, v22.2)) else none := by
  unfold fX16_reckons
  rw [show fX16_operandOf 123 = 1 by decide, jr_let, if_neg (by decide), if_neg (by decide), if_pos (show (91 : Int32) ≤ 123 by decide), if_pos (show (103 : Int32) ≤ 123 by decide), if_neg (show ¬ (139 : Int32) ≤ 123 by decide), if_neg (by decide), show (123 - 121 : Int32) = 2 by decide]
theorem apS_123 (h : pm_H) (a : Nat) (x y : Int64) : fX8_apply h a 123 x y = if pm_kd h a = 8 then (fX8_whole64 (pm_setI h a 0 0) a 2 x y).bind fun v22 => some ((v22.1, v22.2)) else none := by
  unfold fX8_apply
  rw [if_pos (show (80 : Int32) ≤ 123 by decide), if_pos (show (91 : Int32) ≤ 123 by decide), if_pos (show (97 : Int32) ≤ 123 by decide), if_pos (show (103 : Int32) ≤ 123 by decide), if_pos (show (121 : Int32) ≤ 123 by decide), if_neg (show ¬ (139 : Int32) ≤ 123 by decide), show (123 - 121 : Int32) = 2 by decide]
theorem NQ_123 {X Y : Nat} (hX : X < 18446744073709551616) (hY : Y < 18446744073709551616) : NQ 123 64 (Int64.ofNat X) (Int64.ofNat Y) := by
  refine NQ_D (show qL 2 (Int64.ofNat X) (Int64.ofNat Y) from qL_2 hX) (fun h k => ?_) (fun h a k => ?_)
  · rw [rkS_123, if_pos k]
    rfl
  · rw [apS_123, if_pos k]
    rfl
theorem rkS_124 (h : pm_H) (x y : Int64) : fX16_reckons h 592 124 x y = if pm_kd h 592 = 16 then (fX16_long64 h 592 3 x y).bind fun v22 => some ((v22.1, v22.2)) else none := by
  unfold fX16_reckons
  rw [show fX16_operandOf 124 = 1 by decide, jr_let, if_neg (by decide), if_neg (by decide), if_pos (show (91 : Int32) ≤ 124 by decide), if_pos (show (103 : Int32) ≤ 124 by decide), if_neg (show ¬ (139 : Int32) ≤ 124 by decide), if_neg (by decide), show (124 - 121 : Int32) = 3 by decide]
theorem apS_124 (h : pm_H) (a : Nat) (x y : Int64) : fX8_apply h a 124 x y = if pm_kd h a = 8 then (fX8_whole64 (pm_setI h a 0 0) a 3 x y).bind fun v22 => some ((v22.1, v22.2)) else none := by
  unfold fX8_apply
  rw [if_pos (show (80 : Int32) ≤ 124 by decide), if_pos (show (91 : Int32) ≤ 124 by decide), if_pos (show (97 : Int32) ≤ 124 by decide), if_pos (show (103 : Int32) ≤ 124 by decide), if_pos (show (121 : Int32) ≤ 124 by decide), if_neg (show ¬ (139 : Int32) ≤ 124 by decide), show (124 - 121 : Int32) = 3 by decide]
theorem NQ_124 {X Y : Nat} (hX : X < 18446744073709551616) (hY : Y < 18446744073709551616) : NQ 124 64 (Int64.ofNat X) (Int64.ofNat Y) := by
  refine NQ_D (show qL 3 (Int64.ofNat X) (Int64.ofNat Y) from qL_3 _ _) (fun h k => ?_) (fun h a k => ?_)
  · rw [rkS_124, if_pos k]
    rfl
  · rw [apS_124, if_pos k]
    rfl
theorem rkS_125 (h : pm_H) (x y : Int64) : fX16_reckons h 592 125 x y = if pm_kd h 592 = 16 then (fX16_long64 h 592 4 x y).bind fun v22 => some ((v22.1, v22.2)) else none := by
  unfold fX16_reckons
  rw [show fX16_operandOf 125 = 1 by decide, jr_let, if_neg (by decide), if_neg (by decide), if_pos (show (91 : Int32) ≤ 125 by decide), if_pos (show (103 : Int32) ≤ 125 by decide), if_neg (show ¬ (139 : Int32) ≤ 125 by decide), if_neg (by decide), show (125 - 121 : Int32) = 4 by decide]
theorem apS_125 (h : pm_H) (a : Nat) (x y : Int64) : fX8_apply h a 125 x y = if pm_kd h a = 8 then (fX8_whole64 (pm_setI h a 0 0) a 4 x y).bind fun v22 => some ((v22.1, v22.2)) else none := by
  unfold fX8_apply
  rw [if_pos (show (80 : Int32) ≤ 125 by decide), if_pos (show (91 : Int32) ≤ 125 by decide), if_pos (show (97 : Int32) ≤ 125 by decide), if_pos (show (103 : Int32) ≤ 125 by decide), if_pos (show (121 : Int32) ≤ 125 by decide), if_neg (show ¬ (139 : Int32) ≤ 125 by decide), show (125 - 121 : Int32) = 4 by decide]
theorem NQ_125 {X Y : Nat} (hX : X < 18446744073709551616) (hY : Y < 18446744073709551616) : NQ 125 64 (Int64.ofNat X) (Int64.ofNat Y) := by
  refine NQ_D (show qL 4 (Int64.ofNat X) (Int64.ofNat Y) from qL_4 _ _) (fun h k => ?_) (fun h a k => ?_)
  · rw [rkS_125, if_pos k]
    rfl
  · rw [apS_125, if_pos k]
    rfl
theorem rkS_126 (h : pm_H) (x y : Int64) : fX16_reckons h 592 126 x y = if pm_kd h 592 = 16 then (fX16_long64 h 592 5 x y).bind fun v22 => some ((v22.1, v22.2)) else none := by
  unfold fX16_reckons
  rw [show fX16_operandOf 126 = 1 by decide, jr_let, if_neg (by decide), if_neg (by decide), if_pos (show (91 : Int32) ≤ 126 by decide), if_pos (show (103 : Int32) ≤ 126 by decide), if_neg (show ¬ (139 : Int32) ≤ 126 by decide), if_neg (by decide), show (126 - 121 : Int32) = 5 by decide]
theorem apS_126 (h : pm_H) (a : Nat) (x y : Int64) : fX8_apply h a 126 x y = if pm_kd h a = 8 then (fX8_whole64 (pm_setI h a 0 0) a 5 x y).bind fun v22 => some ((v22.1, v22.2)) else none := by
  unfold fX8_apply
  rw [if_pos (show (80 : Int32) ≤ 126 by decide), if_pos (show (91 : Int32) ≤ 126 by decide), if_pos (show (97 : Int32) ≤ 126 by decide), if_pos (show (103 : Int32) ≤ 126 by decide), if_pos (show (121 : Int32) ≤ 126 by decide), if_neg (show ¬ (139 : Int32) ≤ 126 by decide), show (126 - 121 : Int32) = 5 by decide]
theorem NQ_126 {X Y : Nat} (hX : X < 18446744073709551616) (hY : Y < 18446744073709551616) : NQ 126 64 (Int64.ofNat X) (Int64.ofNat Y) := by
  refine NQ_D (show qL 5 (Int64.ofNat X) (Int64.ofNat Y) from qL_5 _ _) (fun h k => ?_) (fun h a k => ?_)
  · rw [rkS_126, if_pos k]
    rfl
  · rw [apS_126, if_pos k]
    rfl
theorem rkS_127 (h : pm_H) (x y : Int64) : fX16_reckons h 592 127 x y = if pm_kd h 592 = 16 then (fX16_long64 h 592 6 x y).bind fun v22 => some ((v22.1, v22.2)) else none := by
  unfold fX16_reckons
  rw [show fX16_operandOf 127 = 1 by decide, jr_let, if_neg (by decide), if_neg (by decide), if_pos (show (91 : Int32) ≤ 127 by decide), if_pos (show (103 : Int32) ≤ 127 by decide), if_neg (show ¬ (139 : Int32) ≤ 127 by decide), if_neg (by decide), show (127 - 121 : Int32) = 6 by decide]
theorem apS_127 (h : pm_H) (a : Nat) (x y : Int64) : fX8_apply h a 127 x y = if pm_kd h a = 8 then (fX8_whole64 (pm_setI h a 0 0) a 6 x y).bind fun v22 => some ((v22.1, v22.2)) else none := by
  unfold fX8_apply
  rw [if_pos (show (80 : Int32) ≤ 127 by decide), if_pos (show (91 : Int32) ≤ 127 by decide), if_pos (show (97 : Int32) ≤ 127 by decide), if_pos (show (103 : Int32) ≤ 127 by decide), if_pos (show (121 : Int32) ≤ 127 by decide), if_neg (show ¬ (139 : Int32) ≤ 127 by decide), show (127 - 121 : Int32) = 6 by decide]
theorem NQ_127 {X Y : Nat} (hX : X < 18446744073709551616) (hY : Y < 18446744073709551616) : NQ 127 64 (Int64.ofNat X) (Int64.ofNat Y) := by
  refine NQ_D (show qL 6 (Int64.ofNat X) (Int64.ofNat Y) from qL_6 _ _) (fun h k => ?_) (fun h a k => ?_)
  · rw [rkS_127, if_pos k]
    rfl
  · rw [apS_127, if_pos k]
    rfl
theorem rkS_128 (h : pm_H) (x y : Int64) : fX16_reckons h 592 128 x y = if pm_kd h 592 = 16 then (fX16_long64 h 592 7 x y).bind fun v22 => some ((v22.1, v22.2)) else none := by
  unfold fX16_reckons
  rw [show fX16_operandOf 128 = 1 by decide, jr_let, if_neg (by decide), if_neg (by decide), if_pos (show (91 : Int32) ≤ 128 by decide), if_pos (show (103 : Int32) ≤ 128 by decide), if_neg (show ¬ (139 : Int32) ≤ 128 by decide), if_neg (by decide), show (128 - 121 : Int32) = 7 by decide]
theorem apS_128 (h : pm_H) (a : Nat) (x y : Int64) : fX8_apply h a 128 x y = if pm_kd h a = 8 then (fX8_whole64 (pm_setI h a 0 0) a 7 x y).bind fun v22 => some ((v22.1, v22.2)) else none := by
  unfold fX8_apply
  rw [if_pos (show (80 : Int32) ≤ 128 by decide), if_pos (show (91 : Int32) ≤ 128 by decide), if_pos (show (97 : Int32) ≤ 128 by decide), if_pos (show (103 : Int32) ≤ 128 by decide), if_pos (show (121 : Int32) ≤ 128 by decide), if_neg (show ¬ (139 : Int32) ≤ 128 by decide), show (128 - 121 : Int32) = 7 by decide]
theorem NQ_128 {X Y : Nat} (hX : X < 18446744073709551616) (hY : Y < 18446744073709551616) : NQ 128 64 (Int64.ofNat X) (Int64.ofNat Y) := by
  refine NQ_D (show qL 7 (Int64.ofNat X) (Int64.ofNat Y) from qL_7 hX hY) (fun h k => ?_) (fun h a k => ?_)
  · rw [rkS_128, if_pos k]
    rfl
  · rw [apS_128, if_pos k]
    rfl
theorem rkS_129 (h : pm_H) (x y : Int64) : fX16_reckons h 592 129 x y = if pm_kd h 592 = 16 then (fX16_long64 h 592 8 x y).bind fun v22 => some ((v22.1, v22.2)) else none := by
  unfold fX16_reckons
  rw [show fX16_operandOf 129 = 1 by decide, jr_let, if_neg (by decide), if_neg (by decide), if_pos (show (91 : Int32) ≤ 129 by decide), if_pos (show (103 : Int32) ≤ 129 by decide), if_neg (show ¬ (139 : Int32) ≤ 129 by decide), if_neg (by decide), show (129 - 121 : Int32) = 8 by decide]
theorem apS_129 (h : pm_H) (a : Nat) (x y : Int64) : fX8_apply h a 129 x y = if pm_kd h a = 8 then (fX8_whole64 (pm_setI h a 0 0) a 8 x y).bind fun v22 => some ((v22.1, v22.2)) else none := by
  unfold fX8_apply
  rw [if_pos (show (80 : Int32) ≤ 129 by decide), if_pos (show (91 : Int32) ≤ 129 by decide), if_pos (show (97 : Int32) ≤ 129 by decide), if_pos (show (103 : Int32) ≤ 129 by decide), if_pos (show (121 : Int32) ≤ 129 by decide), if_neg (show ¬ (139 : Int32) ≤ 129 by decide), show (129 - 121 : Int32) = 8 by decide]
theorem NQ_129 {X Y : Nat} (hX : X < 18446744073709551616) (hY : Y < 18446744073709551616) : NQ 129 64 (Int64.ofNat X) (Int64.ofNat Y) := by
  refine NQ_D (show qL 8 (Int64.ofNat X) (Int64.ofNat Y) from qL_8 _ _) (fun h k => ?_) (fun h a k => ?_)
  · rw [rkS_129, if_pos k]
    rfl
  · rw [apS_129, if_pos k]
    rfl
theorem rkS_130 (h : pm_H) (x y : Int64) : fX16_reckons h 592 130 x y = if pm_kd h 592 = 16 then (fX16_long64 h 592 9 x y).bind fun v22 => some ((v22.1, v22.2)) else none := by
  unfold fX16_reckons
  rw [show fX16_operandOf 130 = 1 by decide, jr_let, if_neg (by decide), if_neg (by decide), if_pos (show (91 : Int32) ≤ 130 by decide), if_pos (show (103 : Int32) ≤ 130 by decide), if_neg (show ¬ (139 : Int32) ≤ 130 by decide), if_neg (by decide), show (130 - 121 : Int32) = 9 by decide]
theorem apS_130 (h : pm_H) (a : Nat) (x y : Int64) : fX8_apply h a 130 x y = if pm_kd h a = 8 then (fX8_whole64 (pm_setI h a 0 0) a 9 x y).bind fun v22 => some ((v22.1, v22.2)) else none := by
  unfold fX8_apply
  rw [if_pos (show (80 : Int32) ≤ 130 by decide), if_pos (show (91 : Int32) ≤ 130 by decide), if_pos (show (97 : Int32) ≤ 130 by decide), if_pos (show (103 : Int32) ≤ 130 by decide), if_pos (show (121 : Int32) ≤ 130 by decide), if_neg (show ¬ (139 : Int32) ≤ 130 by decide), show (130 - 121 : Int32) = 9 by decide]
theorem NQ_130 {X Y : Nat} (hX : X < 18446744073709551616) (hY : Y < 18446744073709551616) : NQ 130 64 (Int64.ofNat X) (Int64.ofNat Y) := by
  refine NQ_D (show qL 9 (Int64.ofNat X) (Int64.ofNat Y) from qL_9 hX hY) (fun h k => ?_) (fun h a k => ?_)
  · rw [rkS_130, if_pos k]
    rfl
  · rw [apS_130, if_pos k]
    rfl
theorem rkS_131 (h : pm_H) (x y : Int64) : fX16_reckons h 592 131 x y = if pm_kd h 592 = 16 then (fX16_long64 h 592 10 x y).bind fun v22 => some ((v22.1, v22.2)) else none := by
  unfold fX16_reckons
  rw [show fX16_operandOf 131 = 1 by decide, jr_let, if_neg (by decide), if_neg (by decide), if_pos (show (91 : Int32) ≤ 131 by decide), if_pos (show (103 : Int32) ≤ 131 by decide), if_neg (show ¬ (139 : Int32) ≤ 131 by decide), if_neg (by decide), show (131 - 121 : Int32) = 10 by decide]
theorem apS_131 (h : pm_H) (a : Nat) (x y : Int64) : fX8_apply h a 131 x y = if pm_kd h a = 8 then (fX8_whole64 (pm_setI h a 0 0) a 10 x y).bind fun v22 => some ((v22.1, v22.2)) else none := by
  unfold fX8_apply
  rw [if_pos (show (80 : Int32) ≤ 131 by decide), if_pos (show (91 : Int32) ≤ 131 by decide), if_pos (show (97 : Int32) ≤ 131 by decide), if_pos (show (103 : Int32) ≤ 131 by decide), if_pos (show (121 : Int32) ≤ 131 by decide), if_neg (show ¬ (139 : Int32) ≤ 131 by decide), show (131 - 121 : Int32) = 10 by decide]
theorem NQ_131 {X Y : Nat} (hX : X < 18446744073709551616) (hY : Y < 18446744073709551616) : NQ 131 64 (Int64.ofNat X) (Int64.ofNat Y) := by
  refine NQ_D (show qL 10 (Int64.ofNat X) (Int64.ofNat Y) from qL_10 _ _) (fun h k => ?_) (fun h a k => ?_)
  · rw [rkS_131, if_pos k]
    rfl
  · rw [apS_131, if_pos k]
    rfl
theorem rkS_132 (h : pm_H) (x y : Int64) : fX16_reckons h 592 132 x y = if pm_kd h 592 = 16 then (fX16_long64 h 592 11 x y).bind fun v22 => some ((v22.1, v22.2)) else none := by
  unfold fX16_reckons
  rw [show fX16_operandOf 132 = 1 by decide, jr_let, if_neg (by decide), if_neg (by decide), if_pos (show (91 : Int32) ≤ 132 by decide), if_pos (show (103 : Int32) ≤ 132 by decide), if_neg (show ¬ (139 : Int32) ≤ 132 by decide), if_neg (by decide), show (132 - 121 : Int32) = 11 by decide]
theorem apS_132 (h : pm_H) (a : Nat) (x y : Int64) : fX8_apply h a 132 x y = if pm_kd h a = 8 then (fX8_whole64 (pm_setI h a 0 0) a 11 x y).bind fun v22 => some ((v22.1, v22.2)) else none := by
  unfold fX8_apply
  rw [if_pos (show (80 : Int32) ≤ 132 by decide), if_pos (show (91 : Int32) ≤ 132 by decide), if_pos (show (97 : Int32) ≤ 132 by decide), if_pos (show (103 : Int32) ≤ 132 by decide), if_pos (show (121 : Int32) ≤ 132 by decide), if_neg (show ¬ (139 : Int32) ≤ 132 by decide), show (132 - 121 : Int32) = 11 by decide]
theorem NQ_132 {X Y : Nat} (hX : X < 18446744073709551616) (hY : Y < 18446744073709551616) : NQ 132 64 (Int64.ofNat X) (Int64.ofNat Y) := by
  refine NQ_D (show qL 11 (Int64.ofNat X) (Int64.ofNat Y) from qL_11 _ _) (fun h k => ?_) (fun h a k => ?_)
  · rw [rkS_132, if_pos k]
    rfl
  · rw [apS_132, if_pos k]
    rfl
theorem rkS_133 (h : pm_H) (x y : Int64) : fX16_reckons h 592 133 x y = if pm_kd h 592 = 16 then (fX16_long64 h 592 12 x y).bind fun v22 => some ((v22.1, v22.2)) else none := by
  unfold fX16_reckons
  rw [show fX16_operandOf 133 = 1 by decide, jr_let, if_neg (by decide), if_neg (by decide), if_pos (show (91 : Int32) ≤ 133 by decide), if_pos (show (103 : Int32) ≤ 133 by decide), if_neg (show ¬ (139 : Int32) ≤ 133 by decide), if_neg (by decide), show (133 - 121 : Int32) = 12 by decide]
theorem apS_133 (h : pm_H) (a : Nat) (x y : Int64) : fX8_apply h a 133 x y = if pm_kd h a = 8 then (fX8_whole64 (pm_setI h a 0 0) a 12 x y).bind fun v22 => some ((v22.1, v22.2)) else none := by
  unfold fX8_apply
  rw [if_pos (show (80 : Int32) ≤ 133 by decide), if_pos (show (91 : Int32) ≤ 133 by decide), if_pos (show (97 : Int32) ≤ 133 by decide), if_pos (show (103 : Int32) ≤ 133 by decide), if_pos (show (121 : Int32) ≤ 133 by decide), if_neg (show ¬ (139 : Int32) ≤ 133 by decide), show (133 - 121 : Int32) = 12 by decide]
theorem NQ_133 {X Y : Nat} (hX : X < 18446744073709551616) (hY : Y < 18446744073709551616) : NQ 133 64 (Int64.ofNat X) (Int64.ofNat Y) := by
  refine NQ_D (show qL 12 (Int64.ofNat X) (Int64.ofNat Y) from qL_12 _ _) (fun h k => ?_) (fun h a k => ?_)
  · rw [rkS_133, if_pos k]
    rfl
  · rw [apS_133, if_pos k]
    rfl
theorem rkS_134 (h : pm_H) (x y : Int64) : fX16_reckons h 592 134 x y = if pm_kd h 592 = 16 then (fX16_long64 h 592 13 x y).bind fun v22 => some ((v22.1, v22.2)) else none := by
  unfold fX16_reckons
  rw [show fX16_operandOf 134 = 1 by decide, jr_let, if_neg (by decide), if_neg (by decide), if_pos (show (91 : Int32) ≤ 134 by decide), if_pos (show (103 : Int32) ≤ 134 by decide), if_neg (show ¬ (139 : Int32) ≤ 134 by decide), if_neg (by decide), show (134 - 121 : Int32) = 13 by decide]
theorem apS_134 (h : pm_H) (a : Nat) (x y : Int64) : fX8_apply h a 134 x y = if pm_kd h a = 8 then (fX8_whole64 (pm_setI h a 0 0) a 13 x y).bind fun v22 => some ((v22.1, v22.2)) else none := by
  unfold fX8_apply
  rw [if_pos (show (80 : Int32) ≤ 134 by decide), if_pos (show (91 : Int32) ≤ 134 by decide), if_pos (show (97 : Int32) ≤ 134 by decide), if_pos (show (103 : Int32) ≤ 134 by decide), if_pos (show (121 : Int32) ≤ 134 by decide), if_neg (show ¬ (139 : Int32) ≤ 134 by decide), show (134 - 121 : Int32) = 13 by decide]
theorem NQ_134 {X Y : Nat} (hX : X < 18446744073709551616) (hY : Y < 18446744073709551616) : NQ 134 64 (Int64.ofNat X) (Int64.ofNat Y) := by
  refine NQ_D (show qL 13 (Int64.ofNat X) (Int64.ofNat Y) from qL_13 _ _) (fun h k => ?_) (fun h a k => ?_)
  · rw [rkS_134, if_pos k]
    rfl
  · rw [apS_134, if_pos k]
    rfl
theorem rkS_135 (h : pm_H) (x y : Int64) : fX16_reckons h 592 135 x y = if pm_kd h 592 = 16 then (fX16_long64 h 592 14 x y).bind fun v22 => some ((v22.1, v22.2)) else none := by
  unfold fX16_reckons
  rw [show fX16_operandOf 135 = 1 by decide, jr_let, if_neg (by decide), if_neg (by decide), if_pos (show (91 : Int32) ≤ 135 by decide), if_pos (show (103 : Int32) ≤ 135 by decide), if_neg (show ¬ (139 : Int32) ≤ 135 by decide), if_neg (by decide), show (135 - 121 : Int32) = 14 by decide]
theorem apS_135 (h : pm_H) (a : Nat) (x y : Int64) : fX8_apply h a 135 x y = if pm_kd h a = 8 then (fX8_whole64 (pm_setI h a 0 0) a 14 x y).bind fun v22 => some ((v22.1, v22.2)) else none := by
  unfold fX8_apply
  rw [if_pos (show (80 : Int32) ≤ 135 by decide), if_pos (show (91 : Int32) ≤ 135 by decide), if_pos (show (97 : Int32) ≤ 135 by decide), if_pos (show (103 : Int32) ≤ 135 by decide), if_pos (show (121 : Int32) ≤ 135 by decide), if_neg (show ¬ (139 : Int32) ≤ 135 by decide), show (135 - 121 : Int32) = 14 by decide]
theorem NQ_135 {X Y : Nat} (hX : X < 18446744073709551616) (hY : Y < 18446744073709551616) : NQ 135 64 (Int64.ofNat X) (Int64.ofNat Y) := by
  refine NQ_D (show qL 14 (Int64.ofNat X) (Int64.ofNat Y) from qL_14 _ _) (fun h k => ?_) (fun h a k => ?_)
  · rw [rkS_135, if_pos k]
    rfl
  · rw [apS_135, if_pos k]
    rfl
theorem rkS_136 (h : pm_H) (x y : Int64) : fX16_reckons h 592 136 x y = if pm_kd h 592 = 16 then (fX16_long64 h 592 15 x y).bind fun v22 => some ((v22.1, v22.2)) else none := by
  unfold fX16_reckons
  rw [show fX16_operandOf 136 = 1 by decide, jr_let, if_neg (by decide), if_neg (by decide), if_pos (show (91 : Int32) ≤ 136 by decide), if_pos (show (103 : Int32) ≤ 136 by decide), if_neg (show ¬ (139 : Int32) ≤ 136 by decide), if_neg (by decide), show (136 - 121 : Int32) = 15 by decide]
theorem apS_136 (h : pm_H) (a : Nat) (x y : Int64) : fX8_apply h a 136 x y = if pm_kd h a = 8 then (fX8_whole64 (pm_setI h a 0 0) a 15 x y).bind fun v22 => some ((v22.1, v22.2)) else none := by
  unfold fX8_apply
  rw [if_pos (show (80 : Int32) ≤ 136 by decide), if_pos (show (91 : Int32) ≤ 136 by decide), if_pos (show (97 : Int32) ≤ 136 by decide), if_pos (show (103 : Int32) ≤ 136 by decide), if_pos (show (121 : Int32) ≤ 136 by decide), if_neg (show ¬ (139 : Int32) ≤ 136 by decide), show (136 - 121 : Int32) = 15 by decide]
theorem NQ_136 {X Y : Nat} (hX : X < 18446744073709551616) (hY : Y < 18446744073709551616) : NQ 136 64 (Int64.ofNat X) (Int64.ofNat Y) := by
  refine NQ_D (show qL 15 (Int64.ofNat X) (Int64.ofNat Y) from qL_15 _ _) (fun h k => ?_) (fun h a k => ?_)
  · rw [rkS_136, if_pos k]
    rfl
  · rw [apS_136, if_pos k]
    rfl
theorem rkS_137 (h : pm_H) (x y : Int64) : fX16_reckons h 592 137 x y = if pm_kd h 592 = 16 then (fX16_long64 h 592 16 x y).bind fun v22 => some ((v22.1, v22.2)) else none := by
  unfold fX16_reckons
  rw [show fX16_operandOf 137 = 1 by decide, jr_let, if_neg (by decide), if_neg (by decide), if_pos (show (91 : Int32) ≤ 137 by decide), if_pos (show (103 : Int32) ≤ 137 by decide), if_neg (show ¬ (139 : Int32) ≤ 137 by decide), if_neg (by decide), show (137 - 121 : Int32) = 16 by decide]
theorem apS_137 (h : pm_H) (a : Nat) (x y : Int64) : fX8_apply h a 137 x y = if pm_kd h a = 8 then (fX8_whole64 (pm_setI h a 0 0) a 16 x y).bind fun v22 => some ((v22.1, v22.2)) else none := by
  unfold fX8_apply
  rw [if_pos (show (80 : Int32) ≤ 137 by decide), if_pos (show (91 : Int32) ≤ 137 by decide), if_pos (show (97 : Int32) ≤ 137 by decide), if_pos (show (103 : Int32) ≤ 137 by decide), if_pos (show (121 : Int32) ≤ 137 by decide), if_neg (show ¬ (139 : Int32) ≤ 137 by decide), show (137 - 121 : Int32) = 16 by decide]
theorem NQ_137 {X Y : Nat} (hX : X < 18446744073709551616) (hY : Y < 18446744073709551616) : NQ 137 64 (Int64.ofNat X) (Int64.ofNat Y) := by
  refine NQ_D (show qL 16 (Int64.ofNat X) (Int64.ofNat Y) from qL_16 hX) (fun h k => ?_) (fun h a k => ?_)
  · rw [rkS_137, if_pos k]
    rfl
  · rw [apS_137, if_pos k]
    rfl
theorem rkS_138 (h : pm_H) (x y : Int64) : fX16_reckons h 592 138 x y = if pm_kd h 592 = 16 then (fX16_long64 h 592 17 x y).bind fun v22 => some ((v22.1, v22.2)) else none := by
  unfold fX16_reckons
  rw [show fX16_operandOf 138 = 1 by decide, jr_let, if_neg (by decide), if_neg (by decide), if_pos (show (91 : Int32) ≤ 138 by decide), if_pos (show (103 : Int32) ≤ 138 by decide), if_neg (show ¬ (139 : Int32) ≤ 138 by decide), if_neg (by decide), show (138 - 121 : Int32) = 17 by decide]
theorem apS_138 (h : pm_H) (a : Nat) (x y : Int64) : fX8_apply h a 138 x y = if pm_kd h a = 8 then (fX8_whole64 (pm_setI h a 0 0) a 17 x y).bind fun v22 => some ((v22.1, v22.2)) else none := by
  unfold fX8_apply
  rw [if_pos (show (80 : Int32) ≤ 138 by decide), if_pos (show (91 : Int32) ≤ 138 by decide), if_pos (show (97 : Int32) ≤ 138 by decide), if_pos (show (103 : Int32) ≤ 138 by decide), if_pos (show (121 : Int32) ≤ 138 by decide), if_neg (show ¬ (139 : Int32) ≤ 138 by decide), show (138 - 121 : Int32) = 17 by decide]
theorem NQ_138 {X Y : Nat} (hX : X < 18446744073709551616) (hY : Y < 18446744073709551616) : NQ 138 64 (Int64.ofNat X) (Int64.ofNat Y) := by
  refine NQ_D (show qL 17 (Int64.ofNat X) (Int64.ofNat Y) from qL_17 hX) (fun h k => ?_) (fun h a k => ?_)
  · rw [rkS_138, if_pos k]
    rfl
  · rw [apS_138, if_pos k]
    rfl
