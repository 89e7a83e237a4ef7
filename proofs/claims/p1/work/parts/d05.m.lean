theorem dX1_other_0 : decode cX1_other 0 = .ok (.iload_n 1, 1) := by decide +kernel
theorem dX1_other_1 : decode cX1_other 1 = .ok (.bipush 28, 2) := by decide +kernel
theorem dX1_other_3 : decode cX1_other 3 = .ok (.if_icmp .gt 11, 3) := by decide +kernel
theorem dX1_other_6 : decode cX1_other 6 = .ok (.aload_n 0, 1) := by decide +kernel
theorem dX1_other_7 : decode cX1_other 7 = .ok (.iload_n 1, 1) := by decide +kernel
theorem dX1_other_8 : decode cX1_other 8 = .ok (.invokevirtual 328, 3) := by decide +kernel
theorem dX1_other_11 : decode cX1_other 11 = .ok (.goto 145, 3) := by decide +kernel
theorem dX1_other_14 : decode cX1_other 14 = .ok (.iload_n 1, 1) := by decide +kernel
theorem dX1_other_15 : decode cX1_other 15 = .ok (.bipush 36, 2) := by decide +kernel
theorem dX1_other_17 : decode cX1_other 17 = .ok (.if_icmp .gt 11, 3) := by decide +kernel
theorem dX1_other_20 : decode cX1_other 20 = .ok (.aload_n 0, 1) := by decide +kernel
theorem dX1_other_21 : decode cX1_other 21 = .ok (.iload_n 1, 1) := by decide +kernel
theorem dX1_other_22 : decode cX1_other 22 = .ok (.invokevirtual 331, 3) := by decide +kernel
theorem dX1_other_25 : decode cX1_other 25 = .ok (.goto 131, 3) := by decide +kernel
theorem dX1_other_28 : decode cX1_other 28 = .ok (.iload_n 1, 1) := by decide +kernel
theorem dX1_other_29 : decode cX1_other 29 = .ok (.bipush 40, 2) := by decide +kernel
theorem dX1_other_31 : decode cX1_other 31 = .ok (.if_icmp .lt 17, 3) := by decide +kernel
theorem dX1_other_34 : decode cX1_other 34 = .ok (.iload_n 1, 1) := by decide +kernel
theorem dX1_other_35 : decode cX1_other 35 = .ok (.bipush 64, 2) := by decide +kernel
theorem dX1_other_37 : decode cX1_other 37 = .ok (.if_icmp .gt 11, 3) := by decide +kernel
theorem dX1_other_40 : decode cX1_other 40 = .ok (.aload_n 0, 1) := by decide +kernel
theorem dX1_other_41 : decode cX1_other 41 = .ok (.iload_n 1, 1) := by decide +kernel
theorem dX1_other_42 : decode cX1_other 42 = .ok (.invokevirtual 334, 3) := by decide +kernel
theorem dX1_other_45 : decode cX1_other 45 = .ok (.goto 111, 3) := by decide +kernel
theorem dX1_other_48 : decode cX1_other 48 = .ok (.iload_n 1, 1) := by decide +kernel
theorem dX1_other_49 : decode cX1_other 49 = .ok (.bipush 69, 2) := by decide +kernel
theorem dX1_other_51 : decode cX1_other 51 = .ok (.if_icmp .lt 18, 3) := by decide +kernel
theorem dX1_other_54 : decode cX1_other 54 = .ok (.iload_n 1, 1) := by decide +kernel
theorem dX1_other_55 : decode cX1_other 55 = .ok (.sipush 208, 3) := by decide +kernel
theorem dX1_other_58 : decode cX1_other 58 = .ok (.if_icmp .ge 11, 3) := by decide +kernel
theorem dX1_other_61 : decode cX1_other 61 = .ok (.aload_n 0, 1) := by decide +kernel
theorem dX1_other_62 : decode cX1_other 62 = .ok (.iload_n 1, 1) := by decide +kernel
theorem dX1_other_63 : decode cX1_other 63 = .ok (.invokevirtual 337, 3) := by decide +kernel
theorem dX1_other_66 : decode cX1_other 66 = .ok (.goto 90, 3) := by decide +kernel
theorem dX1_other_69 : decode cX1_other 69 = .ok (.iload_n 1, 1) := by decide +kernel
theorem dX1_other_70 : decode cX1_other 70 = .ok (.bipush 65, 2) := by decide +kernel
theorem dX1_other_72 : decode cX1_other 72 = .ok (.if_icmp .lt 30, 3) := by decide +kernel
theorem dX1_other_75 : decode cX1_other 75 = .ok (.iload_n 1, 1) := by decide +kernel
theorem dX1_other_76 : decode cX1_other 76 = .ok (.bipush 68, 2) := by decide +kernel
theorem dX1_other_78 : decode cX1_other 78 = .ok (.if_icmp .gt 24, 3) := by decide +kernel
theorem dX1_other_81 : decode cX1_other 81 = .ok (.aload_n 0, 1) := by decide +kernel
theorem dX1_other_82 : decode cX1_other 82 = .ok (.bipush 127, 2) := by decide +kernel
theorem dX1_other_84 : decode cX1_other 84 = .ok (.iload_n 1, 1) := by decide +kernel
theorem dX1_other_85 : decode cX1_other 85 = .ok (.bipush 65, 2) := by decide +kernel
theorem dX1_other_87 : decode cX1_other 87 = .ok (.isub, 1) := by decide +kernel
theorem dX1_other_88 : decode cX1_other 88 = .ok (.isub, 1) := by decide +kernel
theorem dX1_other_89 : decode cX1_other 89 = .ok (.aload_n 0, 1) := by decide +kernel
theorem dX1_other_90 : decode cX1_other 90 = .ok (.getfield 36, 3) := by decide +kernel
theorem dX1_other_93 : decode cX1_other 93 = .ok (.getfield 201, 3) := by decide +kernel
theorem dX1_other_96 : decode cX1_other 96 = .ok (.invokevirtual 340, 3) := by decide +kernel
theorem dX1_other_99 : decode cX1_other 99 = .ok (.goto 57, 3) := by decide +kernel
theorem dX1_other_102 : decode cX1_other 102 = .ok (.iload_n 1, 1) := by decide +kernel
theorem dX1_other_103 : decode cX1_other 103 = .ok (.sipush 208, 3) := by decide +kernel
theorem dX1_other_106 : decode cX1_other 106 = .ok (.if_icmp .lt 18, 3) := by decide +kernel
theorem dX1_other_109 : decode cX1_other 109 = .ok (.iload_n 1, 1) := by decide +kernel
theorem dX1_other_110 : decode cX1_other 110 = .ok (.sipush 210, 3) := by decide +kernel
theorem dX1_other_113 : decode cX1_other 113 = .ok (.if_icmp .gt 11, 3) := by decide +kernel
theorem dX1_other_116 : decode cX1_other 116 = .ok (.aload_n 0, 1) := by decide +kernel
theorem dX1_other_117 : decode cX1_other 117 = .ok (.iload_n 1, 1) := by decide +kernel
theorem dX1_other_118 : decode cX1_other 118 = .ok (.invokevirtual 344, 3) := by decide +kernel
theorem dX1_other_121 : decode cX1_other 121 = .ok (.goto 35, 3) := by decide +kernel
theorem dX1_other_124 : decode cX1_other 124 = .ok (.iload_n 1, 1) := by decide +kernel
theorem dX1_other_125 : decode cX1_other 125 = .ok (.bipush 37, 2) := by decide +kernel
theorem dX1_other_127 : decode cX1_other 127 = .ok (.if_icmp .eq 16, 3) := by decide +kernel
theorem dX1_other_130 : decode cX1_other 130 = .ok (.iload_n 1, 1) := by decide +kernel
theorem dX1_other_131 : decode cX1_other 131 = .ok (.bipush 38, 2) := by decide +kernel
theorem dX1_other_133 : decode cX1_other 133 = .ok (.if_icmp .eq 10, 3) := by decide +kernel
theorem dX1_other_136 : decode cX1_other 136 = .ok (.iload_n 1, 1) := by decide +kernel
theorem dX1_other_137 : decode cX1_other 137 = .ok (.sipush 312, 3) := by decide +kernel
theorem dX1_other_140 : decode cX1_other 140 = .ok (.if_icmp .lt 11, 3) := by decide +kernel
theorem dX1_other_143 : decode cX1_other 143 = .ok (.aload_n 0, 1) := by decide +kernel
theorem dX1_other_144 : decode cX1_other 144 = .ok (.iload_n 1, 1) := by decide +kernel
theorem dX1_other_145 : decode cX1_other 145 = .ok (.invokevirtual 347, 3) := by decide +kernel
theorem dX1_other_148 : decode cX1_other 148 = .ok (.goto 8, 3) := by decide +kernel
theorem dX1_other_151 : decode cX1_other 151 = .ok (.aload_n 0, 1) := by decide +kernel
theorem dX1_other_152 : decode cX1_other 152 = .ok (.iload_n 1, 1) := by decide +kernel
theorem dX1_other_153 : decode cX1_other 153 = .ok (.invokevirtual 350, 3) := by decide +kernel
theorem dX1_other_156 : decode cX1_other 156 = .ok (.return_, 1) := by decide +kernel
def fX1_other_b124 (h : pm_H) (x0 : Nat) (x1 : Int32) : Option pm_H := if x1 = 37 then (if pm_kd h x0 = 1 then (fX1_tableAccess h x0 x1).bind fun v34 => some v34 else none) else (if x1 = 38 then (if pm_kd h x0 = 1 then (fX1_tableAccess h x0 x1).bind fun v38 => some v38 else none) else (if x1 < 312 then (if pm_kd h x0 = 1 then (fX1_stretch h x0 x1).bind fun v42 => some v42 else none) else (if pm_kd h x0 = 1 then (fX1_tableAccess h x0 x1).bind fun v45 => some v45 else none)))
def fX1_other_b102 (h : pm_H) (x0 : Nat) (x1 : Int32) : Option pm_H := if x1 < 208 then (fX1_other_b124 h x0 x1) else (if 210 < x1 then (fX1_other_b124 h x0 x1) else (if pm_kd h x0 = 1 then (fX1_reference h x0 x1).bind fun v30 => some v30 else none))
def fX1_other_b69 (h : pm_H) (x0 : Nat) (x1 : Int32) : Option pm_H := if x1 < 65 then (fX1_other_b102 h x0 x1) else (if 68 < x1 then (fX1_other_b102 h x0 x1) else (if pm_kd h x0 = 1 then (pm_R h x0 3).bind fun v22 => if pm_kd h v22 = 9 then (fX1_constantIn h x0 (127 - (x1 - 65)) (pm_L h v22 8)).bind fun v25 => some v25 else none else none))
def fX1_other_b48 (h : pm_H) (x0 : Nat) (x1 : Int32) : Option pm_H := if x1 < 69 then (fX1_other_b69 h x0 x1) else (if 208 ≤ x1 then (fX1_other_b69 h x0 x1) else (if pm_kd h x0 = 1 then (fX1_operator h x0 x1).bind fun v17 => some v17 else none))
def fX1_other (h : pm_H) (a0 : Nat) (p1 : Int32) : Option pm_H := if 28 < p1 then (if 36 < p1 then (if p1 < 40 then (fX1_other_b48 h a0 p1) else (if 64 < p1 then (fX1_other_b48 h a0 p1) else (if pm_kd h a0 = 1 then (fX1_memoryAccess h a0 p1).bind fun v6 => some v6 else none))) else (if pm_kd h a0 = 1 then (fX1_variable h a0 p1).bind fun v9 => some v9 else none)) else (if pm_kd h a0 = 1 then (fX1_choice h a0 p1).bind fun v12 => some v12 else none)
set_option maxHeartbeats 4000000 in
set_option maxRecDepth 100000 in
theorem bX1_other_124 {g : pm_Gm} {l : Launch} {G : pm_Gl} {Qr : Option Value → pm_H → Prop} (C : pm_C g cX1_other RX1) (X : pm_X g l G mX1_other 0 0 Qr) {h : pm_H} {x0 : Nat} {x1 : Int32} {r : pm_H} (hf : fX1_other_b124 h x0 x1 = some r) (q : Qr none r) : pm_G g 124 [(0, .ref x0), (1, .int x1)] [] h 0 0 := by
  unfold fX1_other_b124 at hf
  refine pm_iload_n C dX1_other_124 rfl rfl ?_
  refine pm_bipush (v := 37) C dX1_other_125 (by decide) ?_
  refine pm_icmp_eq (tgt := 143) C dX1_other_127 (by decide) (fun c32 => ?_) (fun c32 => ?_)
  · have hf := pm_it hf c32
    refine pm_aload_n C dX1_other_143 rfl rfl ?_
    refine pm_iload_n C dX1_other_144 rfl rfl ?_
    obtain ⟨k33, hf⟩ := pm_if hf
    obtain ⟨v34, e35, hf⟩ := pm_bd hf
    refine pm_callV (as := [.int x1]) (st := []) C X dX1_other_145 lnX1_347 myX1_tableAccess viX1_tableAccess ⟨by decide, by decide⟩ rfl rfl k33 (Nat.le_of_ble_eq_true rfl) (Nat.le_refl _) (Nat.le_refl _) (ctX1_tableAccess e35 ?_)
    show pm_G g 148 [(0, .ref x0), (1, .int x1)] [] v34 0 0
    refine pm_goto (tgt := 156) C dX1_other_148 (by decide) ?_
    cases hf
    exact pm_vret C X dX1_other_156 rfl (Nat.le_refl _) (Nat.le_refl _) q
  · have hf := pm_ie hf c32
    refine pm_iload_n C dX1_other_130 rfl rfl ?_
    refine pm_bipush (v := 38) C dX1_other_131 (by decide) ?_
    refine pm_icmp_eq (tgt := 143) C dX1_other_133 (by decide) (fun c36 => ?_) (fun c36 => ?_)
    · have hf := pm_it hf c36
      refine pm_aload_n C dX1_other_143 rfl rfl ?_
      refine pm_iload_n C dX1_other_144 rfl rfl ?_
      obtain ⟨k37, hf⟩ := pm_if hf
      obtain ⟨v38, e39, hf⟩ := pm_bd hf
      refine pm_callV (as := [.int x1]) (st := []) C X dX1_other_145 lnX1_347 myX1_tableAccess viX1_tableAccess ⟨by decide, by decide⟩ rfl rfl k37 (Nat.le_of_ble_eq_true rfl) (Nat.le_refl _) (Nat.le_refl _) (ctX1_tableAccess e39 ?_)
      show pm_G g 148 [(0, .ref x0), (1, .int x1)] [] v38 0 0
      refine pm_goto (tgt := 156) C dX1_other_148 (by decide) ?_
      cases hf
      exact pm_vret C X dX1_other_156 rfl (Nat.le_refl _) (Nat.le_refl _) q
    · have hf := pm_ie hf c36
      refine pm_iload_n C dX1_other_136 rfl rfl ?_
      refine pm_sipush (v := 312) C dX1_other_137 (by decide) ?_
      refine pm_icmp_lt (tgt := 151) C dX1_other_140 (by decide) (fun c40 => ?_) (fun c40 => ?_)
      · have hf := pm_it hf c40
        refine pm_aload_n C dX1_other_151 rfl rfl ?_
        refine pm_iload_n C dX1_other_152 rfl rfl ?_
        obtain ⟨k41, hf⟩ := pm_if hf
        obtain ⟨v42, e43, hf⟩ := pm_bd hf
        refine pm_callV (as := [.int x1]) (st := []) C X dX1_other_153 lnX1_350 myX1_stretch viX1_stretch ⟨by decide, by decide⟩ rfl rfl k41 (Nat.le_of_ble_eq_true rfl) (Nat.le_refl _) (Nat.le_refl _) (ctX1_stretch e43 ?_)
        show pm_G g 156 [(0, .ref x0), (1, .int x1)] [] v42 0 0
        cases hf
        exact pm_vret C X dX1_other_156 rfl (Nat.le_refl _) (Nat.le_refl _) q
      · have hf := pm_ie hf c40
        refine pm_aload_n C dX1_other_143 rfl rfl ?_
        refine pm_iload_n C dX1_other_144 rfl rfl ?_
        obtain ⟨k44, hf⟩ := pm_if hf
        obtain ⟨v45, e46, hf⟩ := pm_bd hf
        refine pm_callV (as := [.int x1]) (st := []) C X dX1_other_145 lnX1_347 myX1_tableAccess viX1_tableAccess ⟨by decide, by decide⟩ rfl rfl k44 (Nat.le_of_ble_eq_true rfl) (Nat.le_refl _) (Nat.le_refl _) (ctX1_tableAccess e46 ?_)
        show pm_G g 148 [(0, .ref x0), (1, .int x1)] [] v45 0 0
        refine pm_goto (tgt := 156) C dX1_other_148 (by decide) ?_
        cases hf
        exact pm_vret C X dX1_other_156 rfl (Nat.le_refl _) (Nat.le_refl _) q
set_option maxHeartbeats 4000000 in
set_option maxRecDepth 100000 in
theorem bX1_other_102 {g : pm_Gm} {l : Launch} {G : pm_Gl} {Qr : Option Value → pm_H → Prop} (C : pm_C g cX1_other RX1) (X : pm_X g l G mX1_other 0 0 Qr) {h : pm_H} {x0 : Nat} {x1 : Int32} {r : pm_H} (hf : fX1_other_b102 h x0 x1 = some r) (q : Qr none r) : pm_G g 102 [(0, .ref x0), (1, .int x1)] [] h 0 0 := by
  unfold fX1_other_b102 at hf
  refine pm_iload_n C dX1_other_102 rfl rfl ?_
  refine pm_sipush (v := 208) C dX1_other_103 (by decide) ?_
  refine pm_icmp_lt (tgt := 124) C dX1_other_106 (by decide) (fun c27 => ?_) (fun c27 => ?_)
  · have hf := pm_it hf c27
    exact pm_sub [0, 1] rfl (bX1_other_124 C X hf q)
  · have hf := pm_ie hf c27
    refine pm_iload_n C dX1_other_109 rfl rfl ?_
    refine pm_sipush (v := 210) C dX1_other_110 (by decide) ?_
    refine pm_icmp_gt (tgt := 124) C dX1_other_113 (by decide) (fun c28 => ?_) (fun c28 => ?_)
    · have hf := pm_it hf c28
      exact pm_sub [0, 1] rfl (bX1_other_124 C X hf q)
    · have hf := pm_ie hf c28
      refine pm_aload_n C dX1_other_116 rfl rfl ?_
      refine pm_iload_n C dX1_other_117 rfl rfl ?_
      obtain ⟨k29, hf⟩ := pm_if hf
      obtain ⟨v30, e31, hf⟩ := pm_bd hf
      refine pm_callV (as := [.int x1]) (st := []) C X dX1_other_118 lnX1_344 myX1_reference viX1_reference ⟨by decide, by decide⟩ rfl rfl k29 (Nat.le_of_ble_eq_true rfl) (Nat.le_refl _) (Nat.le_refl _) (ctX1_reference e31 ?_)
      show pm_G g 121 [(0, .ref x0), (1, .int x1)] [] v30 0 0
      refine pm_goto (tgt := 156) C dX1_other_121 (by decide) ?_
      cases hf
      exact pm_vret C X dX1_other_156 rfl (Nat.le_refl _) (Nat.le_refl _) q
set_option maxHeartbeats 4000000 in
set_option maxRecDepth 100000 in
theorem bX1_other_69 {g : pm_Gm} {l : Launch} {G : pm_Gl} {Qr : Option Value → pm_H → Prop} (C : pm_C g cX1_other RX1) (X : pm_X g l G mX1_other 0 0 Qr) {h : pm_H} {x0 : Nat} {x1 : Int32} {r : pm_H} (hf : fX1_other_b69 h x0 x1 = some r) (q : Qr none r) : pm_G g 69 [(0, .ref x0), (1, .int x1)] [] h 0 0 := by
  unfold fX1_other_b69 at hf
  refine pm_iload_n C dX1_other_69 rfl rfl ?_
  refine pm_bipush (v := 65) C dX1_other_70 (by decide) ?_
  refine pm_icmp_lt (tgt := 102) C dX1_other_72 (by decide) (fun c19 => ?_) (fun c19 => ?_)
  · have hf := pm_it hf c19
    exact pm_sub [0, 1] rfl (bX1_other_102 C X hf q)
  · have hf := pm_ie hf c19
    refine pm_iload_n C dX1_other_75 rfl rfl ?_
    refine pm_bipush (v := 68) C dX1_other_76 (by decide) ?_
    refine pm_icmp_gt (tgt := 102) C dX1_other_78 (by decide) (fun c20 => ?_) (fun c20 => ?_)
    · have hf := pm_it hf c20
      exact pm_sub [0, 1] rfl (bX1_other_102 C X hf q)
    · have hf := pm_ie hf c20
      refine pm_aload_n C dX1_other_81 rfl rfl ?_
      refine pm_bipush (v := 127) C dX1_other_82 (by decide) ?_
      refine pm_iload_n C dX1_other_84 rfl rfl ?_
      refine pm_bipush (v := 65) C dX1_other_85 (by decide) ?_
      refine pm_isub C dX1_other_87 ?_
      refine pm_isub C dX1_other_88 ?_
      refine pm_aload_n C dX1_other_89 rfl rfl ?_
      obtain ⟨k21, hf⟩ := pm_if hf
      obtain ⟨v22, e23, hf⟩ := pm_bd hf
      refine pm_getR C dX1_other_90 flX1_36 rfl k21 e23 ?_
      obtain ⟨k24, hf⟩ := pm_if hf
      refine pm_getL C dX1_other_93 flX1_201 rfl k24 rfl ?_
      obtain ⟨v25, e26, hf⟩ := pm_bd hf
      refine pm_callV (as := [.int (127 - (x1 - 65)), .long (pm_L h v22 8)]) (st := []) C X dX1_other_96 lnX1_340 myX1_constantIn viX1_constantIn ⟨by decide, by decide⟩ rfl rfl k21 (Nat.le_of_ble_eq_true rfl) (Nat.le_refl _) (Nat.le_refl _) (ctX1_constantIn e26 ?_)
      show pm_G g 99 [(0, .ref x0), (1, .int x1)] [] v25 0 0
      refine pm_goto (tgt := 156) C dX1_other_99 (by decide) ?_
      cases hf
      exact pm_vret C X dX1_other_156 rfl (Nat.le_refl _) (Nat.le_refl _) q
set_option maxHeartbeats 4000000 in
set_option maxRecDepth 100000 in
theorem bX1_other_48 {g : pm_Gm} {l : Launch} {G : pm_Gl} {Qr : Option Value → pm_H → Prop} (C : pm_C g cX1_other RX1) (X : pm_X g l G mX1_other 0 0 Qr) {h : pm_H} {x0 : Nat} {x1 : Int32} {r : pm_H} (hf : fX1_other_b48 h x0 x1 = some r) (q : Qr none r) : pm_G g 48 [(0, .ref x0), (1, .int x1)] [] h 0 0 := by
  unfold fX1_other_b48 at hf
  refine pm_iload_n C dX1_other_48 rfl rfl ?_
  refine pm_bipush (v := 69) C dX1_other_49 (by decide) ?_
  refine pm_icmp_lt (tgt := 69) C dX1_other_51 (by decide) (fun c14 => ?_) (fun c14 => ?_)
  · have hf := pm_it hf c14
    exact pm_sub [0, 1] rfl (bX1_other_69 C X hf q)
  · have hf := pm_ie hf c14
    refine pm_iload_n C dX1_other_54 rfl rfl ?_
    refine pm_sipush (v := 208) C dX1_other_55 (by decide) ?_
    refine pm_icmp_ge (tgt := 69) C dX1_other_58 (by decide) (fun c15 => ?_) (fun c15 => ?_)
    · have hf := pm_it hf c15
      exact pm_sub [0, 1] rfl (bX1_other_69 C X hf q)
    · have hf := pm_ie hf c15
      refine pm_aload_n C dX1_other_61 rfl rfl ?_
      refine pm_iload_n C dX1_other_62 rfl rfl ?_
      obtain ⟨k16, hf⟩ := pm_if hf
      obtain ⟨v17, e18, hf⟩ := pm_bd hf
      refine pm_callV (as := [.int x1]) (st := []) C X dX1_other_63 lnX1_337 myX1_operator viX1_operator ⟨by decide, by decide⟩ rfl rfl k16 (Nat.le_of_ble_eq_true rfl) (Nat.le_refl _) (Nat.le_refl _) (ctX1_operator e18 ?_)
      show pm_G g 66 [(0, .ref x0), (1, .int x1)] [] v17 0 0
      refine pm_goto (tgt := 156) C dX1_other_66 (by decide) ?_
      cases hf
      exact pm_vret C X dX1_other_156 rfl (Nat.le_refl _) (Nat.le_refl _) q
set_option maxHeartbeats 4000000 in
set_option maxRecDepth 100000 in
theorem ctX1_other {l : Launch} {G : pm_Gl} {h : pm_H} {a0 : Nat} {p1 : Int32} {r : pm_H} {Qr : Option Value → pm_H → Prop} (hf : fX1_other h a0 p1 = some r) (q : Qr none r) : pm_Ct l G mX1_other [.ref a0, .int p1] h 0 0 Qr := by
  refine pm_body pnX1 (Nat.le_of_ble_eq_true rfl) (fun g C X => ?_)
  have C : pm_C g cX1_other RX1 := C
  show pm_G g 0 [(0, .ref a0), (1, .int p1)] [] h 0 0
  unfold fX1_other at hf
  refine pm_iload_n C dX1_other_0 rfl rfl ?_
  refine pm_bipush (v := 28) C dX1_other_1 (by decide) ?_
  refine pm_icmp_gt (tgt := 14) C dX1_other_3 (by decide) (fun c1 => ?_) (fun c1 => ?_)
  · have hf := pm_it hf c1
    refine pm_iload_n C dX1_other_14 rfl rfl ?_
    refine pm_bipush (v := 36) C dX1_other_15 (by decide) ?_
    refine pm_icmp_gt (tgt := 28) C dX1_other_17 (by decide) (fun c2 => ?_) (fun c2 => ?_)
    · have hf := pm_it hf c2
      refine pm_iload_n C dX1_other_28 rfl rfl ?_
      refine pm_bipush (v := 40) C dX1_other_29 (by decide) ?_
      refine pm_icmp_lt (tgt := 48) C dX1_other_31 (by decide) (fun c3 => ?_) (fun c3 => ?_)
      · have hf := pm_it hf c3
        exact pm_sub [0, 1] rfl (bX1_other_48 C X hf q)
      · have hf := pm_ie hf c3
        refine pm_iload_n C dX1_other_34 rfl rfl ?_
        refine pm_bipush (v := 64) C dX1_other_35 (by decide) ?_
        refine pm_icmp_gt (tgt := 48) C dX1_other_37 (by decide) (fun c4 => ?_) (fun c4 => ?_)
        · have hf := pm_it hf c4
          exact pm_sub [0, 1] rfl (bX1_other_48 C X hf q)
        · have hf := pm_ie hf c4
          refine pm_aload_n C dX1_other_40 rfl rfl ?_
          refine pm_iload_n C dX1_other_41 rfl rfl ?_
          obtain ⟨k5, hf⟩ := pm_if hf
          obtain ⟨v6, e7, hf⟩ := pm_bd hf
          refine pm_callV (as := [.int p1]) (st := []) C X dX1_other_42 lnX1_334 myX1_memoryAccess viX1_memoryAccess ⟨by decide, by decide⟩ rfl rfl k5 (Nat.le_of_ble_eq_true rfl) (Nat.le_refl _) (Nat.le_refl _) (ctX1_memoryAccess e7 ?_)
          show pm_G g 45 [(0, .ref a0), (1, .int p1)] [] v6 0 0
          refine pm_goto (tgt := 156) C dX1_other_45 (by decide) ?_
          cases hf
          exact pm_vret C X dX1_other_156 rfl (Nat.le_refl _) (Nat.le_refl _) q
    · have hf := pm_ie hf c2
      refine pm_aload_n C dX1_other_20 rfl rfl ?_
      refine pm_iload_n C dX1_other_21 rfl rfl ?_
      obtain ⟨k8, hf⟩ := pm_if hf
      obtain ⟨v9, e10, hf⟩ := pm_bd hf
      refine pm_callV (as := [.int p1]) (st := []) C X dX1_other_22 lnX1_331 myX1_variable viX1_variable ⟨by decide, by decide⟩ rfl rfl k8 (Nat.le_of_ble_eq_true rfl) (Nat.le_refl _) (Nat.le_refl _) (ctX1_variable e10 ?_)
      show pm_G g 25 [(0, .ref a0), (1, .int p1)] [] v9 0 0
      refine pm_goto (tgt := 156) C dX1_other_25 (by decide) ?_
      cases hf
      exact pm_vret C X dX1_other_156 rfl (Nat.le_refl _) (Nat.le_refl _) q
  · have hf := pm_ie hf c1
    refine pm_aload_n C dX1_other_6 rfl rfl ?_
    refine pm_iload_n C dX1_other_7 rfl rfl ?_
    obtain ⟨k11, hf⟩ := pm_if hf
    obtain ⟨v12, e13, hf⟩ := pm_bd hf
    refine pm_callV (as := [.int p1]) (st := []) C X dX1_other_8 lnX1_328 myX1_choice viX1_choice ⟨by decide, by decide⟩ rfl rfl k11 (Nat.le_of_ble_eq_true rfl) (Nat.le_refl _) (Nat.le_refl _) (ctX1_choice e13 ?_)
    show pm_G g 11 [(0, .ref a0), (1, .int p1)] [] v12 0 0
    refine pm_goto (tgt := 156) C dX1_other_11 (by decide) ?_
    cases hf
    exact pm_vret C X dX1_other_156 rfl (Nat.le_refl _) (Nat.le_refl _) q
set_option maxHeartbeats 4000000 in
set_option maxRecDepth 100000 in
theorem kpX1_other_b124 {h : pm_H} {x0 : Nat} {x1 : Int32} {r : pm_H} (hf : fX1_other_b124 h x0 x1 = some r) : pm_S3 r h := by
  unfold fX1_other_b124 at hf
  have K0 := pm_S3.rf h
  by_cases c38 : x1 = 37
  · have hf := pm_it hf c38
    obtain ⟨k39, hf⟩ := pm_if hf
    obtain ⟨v40, e41, hf⟩ := pm_bd hf
    have K42 := pm_S3.trans (kpX1_tableAccess e41) K0
    cases hf
    exact K42
  · have hf := pm_ie hf c38
    by_cases c43 : x1 = 38
    · have hf := pm_it hf c43
      obtain ⟨k44, hf⟩ := pm_if hf
      obtain ⟨v45, e46, hf⟩ := pm_bd hf
      have K47 := pm_S3.trans (kpX1_tableAccess e46) K0
      cases hf
      exact K47
    · have hf := pm_ie hf c43
      by_cases c48 : x1 < 312
      · have hf := pm_it hf c48
        obtain ⟨k49, hf⟩ := pm_if hf
        obtain ⟨v50, e51, hf⟩ := pm_bd hf
        have K52 := pm_S3.trans (kpX1_stretch e51) K0
        cases hf
        exact K52
      · have hf := pm_ie hf c48
        obtain ⟨k53, hf⟩ := pm_if hf
        obtain ⟨v54, e55, hf⟩ := pm_bd hf
        have K56 := pm_S3.trans (kpX1_tableAccess e55) K0
        cases hf
        exact K56
set_option maxHeartbeats 4000000 in
set_option maxRecDepth 100000 in
theorem kpX1_other_b102 {h : pm_H} {x0 : Nat} {x1 : Int32} {r : pm_H} (hf : fX1_other_b102 h x0 x1 = some r) : pm_S3 r h := by
  unfold fX1_other_b102 at hf
  have K0 := pm_S3.rf h
  by_cases c32 : x1 < 208
  · have hf := pm_it hf c32
    exact pm_S3.trans (kpX1_other_b124 hf) K0
  · have hf := pm_ie hf c32
    by_cases c33 : 210 < x1
    · have hf := pm_it hf c33
      exact pm_S3.trans (kpX1_other_b124 hf) K0
    · have hf := pm_ie hf c33
      obtain ⟨k34, hf⟩ := pm_if hf
      obtain ⟨v35, e36, hf⟩ := pm_bd hf
      have K37 := pm_S3.trans (kpX1_reference e36) K0
      cases hf
      exact K37
set_option maxHeartbeats 4000000 in
set_option maxRecDepth 100000 in
theorem kpX1_other_b69 {h : pm_H} {x0 : Nat} {x1 : Int32} {r : pm_H} (hf : fX1_other_b69 h x0 x1 = some r) : pm_S3 r h := by
  unfold fX1_other_b69 at hf
  have K0 := pm_S3.rf h
  by_cases c23 : x1 < 65
  · have hf := pm_it hf c23
    exact pm_S3.trans (kpX1_other_b102 hf) K0
  · have hf := pm_ie hf c23
    by_cases c24 : 68 < x1
    · have hf := pm_it hf c24
      exact pm_S3.trans (kpX1_other_b102 hf) K0
    · have hf := pm_ie hf c24
      obtain ⟨k25, hf⟩ := pm_if hf
      obtain ⟨v26, e27, hf⟩ := pm_bd hf
      obtain ⟨k28, hf⟩ := pm_if hf
      obtain ⟨v29, e30, hf⟩ := pm_bd hf
      have K31 := pm_S3.trans (kpX1_constantIn e30) K0
      cases hf
      exact K31
set_option maxHeartbeats 4000000 in
set_option maxRecDepth 100000 in
theorem kpX1_other_b48 {h : pm_H} {x0 : Nat} {x1 : Int32} {r : pm_H} (hf : fX1_other_b48 h x0 x1 = some r) : pm_S3 r h := by
  unfold fX1_other_b48 at hf
  have K0 := pm_S3.rf h
  by_cases c17 : x1 < 69
  · have hf := pm_it hf c17
    exact pm_S3.trans (kpX1_other_b69 hf) K0
  · have hf := pm_ie hf c17
    by_cases c18 : 208 ≤ x1
    · have hf := pm_it hf c18
      exact pm_S3.trans (kpX1_other_b69 hf) K0
    · have hf := pm_ie hf c18
      obtain ⟨k19, hf⟩ := pm_if hf
      obtain ⟨v20, e21, hf⟩ := pm_bd hf
      have K22 := pm_S3.trans (kpX1_operator e21) K0
      cases hf
      exact K22
set_option maxHeartbeats 4000000 in
set_option maxRecDepth 100000 in
theorem kpX1_other {h : pm_H} {a0 : Nat} {p1 : Int32} {r : pm_H} (hf : fX1_other h a0 p1 = some r) : pm_S3 r h := by
  unfold fX1_other at hf
  have K0 := pm_S3.rf h
  by_cases c1 : 28 < p1
  · have hf := pm_it hf c1
    by_cases c2 : 36 < p1
    · have hf := pm_it hf c2
      by_cases c3 : p1 < 40
      · have hf := pm_it hf c3
        exact pm_S3.trans (kpX1_other_b48 hf) K0
      · have hf := pm_ie hf c3
        by_cases c4 : 64 < p1
        · have hf := pm_it hf c4
          exact pm_S3.trans (kpX1_other_b48 hf) K0
        · have hf := pm_ie hf c4
          obtain ⟨k5, hf⟩ := pm_if hf
          obtain ⟨v6, e7, hf⟩ := pm_bd hf
          have K8 := pm_S3.trans (kpX1_memoryAccess e7) K0
          cases hf
          exact K8
    · have hf := pm_ie hf c2
      obtain ⟨k9, hf⟩ := pm_if hf
      obtain ⟨v10, e11, hf⟩ := pm_bd hf
      have K12 := pm_S3.trans (kpX1_variable e11) K0
      cases hf
      exact K12
  · have hf := pm_ie hf c1
    obtain ⟨k13, hf⟩ := pm_if hf
    obtain ⟨v14, e15, hf⟩ := pm_bd hf
    have K16 := pm_S3.trans (kpX1_choice e15) K0
    cases hf
    exact K16
theorem dX6_load_0 : decode cX6_load 0 = .ok (.iconst 1, 1) := by decide +kernel
theorem dX6_load_1 : decode cX6_load 1 = .ok (.iload_n 2, 1) := by decide +kernel
theorem dX6_load_2 : decode cX6_load 2 = .ok (.invokestatic 69, 3) := by decide +kernel
theorem dX6_load_5 : decode cX6_load 5 = .ok (.ishl, 1) := by decide +kernel
theorem dX6_load_6 : decode cX6_load 6 = .ok (.istore 5, 2) := by decide +kernel
theorem dX6_load_8 : decode cX6_load 8 = .ok (.lconst 0, 1) := by decide +kernel
theorem dX6_load_9 : decode cX6_load 9 = .ok (.lstore 6, 2) := by decide +kernel
theorem dX6_load_11 : decode cX6_load 11 = .ok (.iload 5, 2) := by decide +kernel
theorem dX6_load_13 : decode cX6_load 13 = .ok (.iconst 1, 1) := by decide +kernel
theorem dX6_load_14 : decode cX6_load 14 = .ok (.isub, 1) := by decide +kernel
theorem dX6_load_15 : decode cX6_load 15 = .ok (.istore 8, 2) := by decide +kernel
theorem dX6_load_17 : decode cX6_load 17 = .ok (.iload 8, 2) := by decide +kernel
theorem dX6_load_19 : decode cX6_load 19 = .ok (.ifCond .lt 28, 3) := by decide +kernel
theorem dX6_load_22 : decode cX6_load 22 = .ok (.lload 6, 2) := by decide +kernel
theorem dX6_load_24 : decode cX6_load 24 = .ok (.bipush 8, 2) := by decide +kernel
theorem dX6_load_26 : decode cX6_load 26 = .ok (.lshl, 1) := by decide +kernel
theorem dX6_load_27 : decode cX6_load 27 = .ok (.aload_n 0, 1) := by decide +kernel
theorem dX6_load_28 : decode cX6_load 28 = .ok (.iload_n 1, 1) := by decide +kernel
theorem dX6_load_29 : decode cX6_load 29 = .ok (.lload_n 3, 1) := by decide +kernel
theorem dX6_load_30 : decode cX6_load 30 = .ok (.iload 8, 2) := by decide +kernel
theorem dX6_load_32 : decode cX6_load 32 = .ok (.i2l, 1) := by decide +kernel
theorem dX6_load_33 : decode cX6_load 33 = .ok (.ladd, 1) := by decide +kernel
theorem dX6_load_34 : decode cX6_load 34 = .ok (.invokevirtual 73, 3) := by decide +kernel
theorem dX6_load_37 : decode cX6_load 37 = .ok (.i2l, 1) := by decide +kernel
theorem dX6_load_38 : decode cX6_load 38 = .ok (.lor, 1) := by decide +kernel
theorem dX6_load_39 : decode cX6_load 39 = .ok (.lstore 6, 2) := by decide +kernel
theorem dX6_load_41 : decode cX6_load 41 = .ok (.iinc 8 (-1), 3) := by decide +kernel
theorem dX6_load_44 : decode cX6_load 44 = .ok (.goto (-27), 3) := by decide +kernel
theorem dX6_load_47 : decode cX6_load 47 = .ok (.iload_n 2, 1) := by decide +kernel
theorem dX6_load_48 : decode cX6_load 48 = .ok (.bipush 44, 2) := by decide +kernel
theorem dX6_load_50 : decode cX6_load 50 = .ok (.if_icmp .lt 13, 3) := by decide +kernel
theorem dX6_load_53 : decode cX6_load 53 = .ok (.iload_n 2, 1) := by decide +kernel
theorem dX6_load_54 : decode cX6_load 54 = .ok (.iconst 1, 1) := by decide +kernel
theorem dX6_load_55 : decode cX6_load 55 = .ok (.iand, 1) := by decide +kernel
theorem dX6_load_56 : decode cX6_load 56 = .ok (.ifCond .ne 7, 3) := by decide +kernel
theorem dX6_load_59 : decode cX6_load 59 = .ok (.iconst 1, 1) := by decide +kernel
theorem dX6_load_60 : decode cX6_load 60 = .ok (.goto 4, 3) := by decide +kernel
theorem dX6_load_63 : decode cX6_load 63 = .ok (.iconst 0, 1) := by decide +kernel
theorem dX6_load_64 : decode cX6_load 64 = .ok (.istore 8, 2) := by decide +kernel
theorem dX6_load_66 : decode cX6_load 66 = .ok (.iload 8, 2) := by decide +kernel
theorem dX6_load_68 : decode cX6_load 68 = .ok (.ifCond .ne 6, 3) := by decide +kernel
theorem dX6_load_71 : decode cX6_load 71 = .ok (.lload 6, 2) := by decide +kernel
theorem dX6_load_73 : decode cX6_load 73 = .ok (.lreturn, 1) := by decide +kernel
theorem dX6_load_74 : decode cX6_load 74 = .ok (.bipush 64, 2) := by decide +kernel
theorem dX6_load_76 : decode cX6_load 76 = .ok (.bipush 8, 2) := by decide +kernel
theorem dX6_load_78 : decode cX6_load 78 = .ok (.iload 5, 2) := by decide +kernel
theorem dX6_load_80 : decode cX6_load 80 = .ok (.imul, 1) := by decide +kernel
theorem dX6_load_81 : decode cX6_load 81 = .ok (.isub, 1) := by decide +kernel
theorem dX6_load_82 : decode cX6_load 82 = .ok (.istore 9, 2) := by decide +kernel
theorem dX6_load_84 : decode cX6_load 84 = .ok (.lload 6, 2) := by decide +kernel
theorem dX6_load_86 : decode cX6_load 86 = .ok (.iload 9, 2) := by decide +kernel
theorem dX6_load_88 : decode cX6_load 88 = .ok (.lshl, 1) := by decide +kernel
theorem dX6_load_89 : decode cX6_load 89 = .ok (.iload 9, 2) := by decide +kernel
theorem dX6_load_91 : decode cX6_load 91 = .ok (.lshr, 1) := by decide +kernel
theorem dX6_load_92 : decode cX6_load 92 = .ok (.lstore 6, 2) := by decide +kernel
theorem dX6_load_94 : decode cX6_load 94 = .ok (.iload_n 2, 1) := by decide +kernel
theorem dX6_load_95 : decode cX6_load 95 = .ok (.bipush 48, 2) := by decide +kernel
theorem dX6_load_97 : decode cX6_load 97 = .ok (.if_icmp .ge 12, 3) := by decide +kernel
theorem dX6_load_100 : decode cX6_load 100 = .ok (.lload 6, 2) := by decide +kernel
theorem dX6_load_102 : decode cX6_load 102 = .ok (.ldc2_w 76, 3) := by decide +kernel
theorem dX6_load_105 : decode cX6_load 105 = .ok (.land, 1) := by decide +kernel
theorem dX6_load_106 : decode cX6_load 106 = .ok (.goto 5, 3) := by decide +kernel
theorem dX6_load_109 : decode cX6_load 109 = .ok (.lload 6, 2) := by decide +kernel
theorem dX6_load_111 : decode cX6_load 111 = .ok (.lreturn, 1) := by decide +kernel
def tX6_load_17 (h : pm_H) (x0 : Nat) (x1 : Int32) (x2 : Int32) (x3 : Int64) (x5 : Int32) (x6 : Int64) (x8 : Int32) : Option (((Nat × Int32 × Int32 × Int64 × Int32 × Int64 × Int32) ⊕ (Int32 × Int32 × Int64)) ⊕ Int64) := if x8 < 0 then (if x2 < 44 then (some (.inl (.inr ((x2, x5, x6))))) else (if (x2 &&& 1) = 0 then (if (1 : Int32) = (0 : Int32) then (some (.inr (x6))) else (pm_let (64 - (8 * x5)) fun y11 => pm_let ((x6 <<< (y11.toInt64 &&& 63)) >>> (y11.toInt64 &&& 63)) fun y13 => if 48 ≤ x2 then (some (.inr (y13))) else (some (.inr (y13 &&& 4294967295))))) else (some (.inl (.inr ((x2, x5, x6))))))) else (if pm_kd h x0 = 6 then (fX6_byteAt h x0 x1 (x3 + x8.toInt64)).bind fun v17 => pm_let ((x6 <<< ((8 : Int32).toInt64 &&& 63)) ||| v17.toInt64) fun y19 => pm_let (x8 + (-1)) fun y21 => some (.inl (.inl ((x0, x1, x2, x3, x5, y19, y21)))) else none)
def tX6_load_63 (h : pm_H) (x2 : Int32) (x5 : Int32) (x6 : Int64) : Option (((Nat × Int32 × Int32 × Int64 × Int32 × Int64 × Int32) ⊕ (Int32 × Int32 × Int64)) ⊕ Int64) := if (0 : Int32) = (0 : Int32) then (some (.inr (x6))) else (pm_let (64 - (8 * x5)) fun y24 => pm_let ((x6 <<< (y24.toInt64 &&& 63)) >>> (y24.toInt64 &&& 63)) fun y26 => if 48 ≤ x2 then (some (.inr (y26))) else (some (.inr (y26 &&& 4294967295))))
def sX6_load (h : pm_H) : ((Nat × Int32 × Int32 × Int64 × Int32 × Int64 × Int32) ⊕ (Int32 × Int32 × Int64)) → Option (((Nat × Int32 × Int32 × Int64 × Int32 × Int64 × Int32) ⊕ (Int32 × Int32 × Int64)) ⊕ Int64) := fun z => match z with
  | .inl (x0, x1, x2, x3, x5, x6, x8) => tX6_load_17 h x0 x1 x2 x3 x5 x6 x8
  | .inr (x2, x5, x6) => tX6_load_63 h x2 x5 x6
noncomputable def fX6_load (h : pm_H) (a0 : Nat) (p1 : Int32) (p2 : Int32) (p3 : Int64) : Option Int64 := (fX6_logOfWidth p2).bind fun v1 => pm_let ((1 : Int32) <<< (v1 &&& 31)) fun y3 => pm_let (y3 - 1) fun y5 => pm_lim (sX6_load h) (.inl ((a0, p1, p2, p3, y3, 0, y5)))
set_option maxHeartbeats 4000000 in
set_option maxRecDepth 100000 in
theorem lpX6_load {g : pm_Gm} {l : Launch} {G : pm_Gl} {Qr : Option Value → pm_H → Prop} (C : pm_C g cX6_load RX6) (X : pm_X g l G mX6_load 0 0 Qr) {h : pm_H} {r : Int64} (q : Qr (some (.long r)) h) : ∀ n : Nat, (∀ (x0 : Nat) (x1 : Int32) (x2 : Int32) (x3 : Int64) (x5 : Int32) (x6 : Int64) (x8 : Int32), pm_iter (sX6_load h) n (.inl (x0, x1, x2, x3, x5, x6, x8)) = some r → pm_G g 17 [(0, .ref x0), (1, .int x1), (2, .int x2), (3, .long x3), (5, .int x5), (6, .long x6), (8, .int x8)] [] h 0 0) ∧ (∀ (x2 : Int32) (x5 : Int32) (x6 : Int64), pm_iter (sX6_load h) n (.inr (x2, x5, x6)) = some r → pm_G g 63 [(2, .int x2), (5, .int x5), (6, .long x6)] [] h 0 0) := by
  intro n
  induction n with
  | zero => exact ⟨fun _ _ _ _ _ _ _ hf => (by cases hf), fun _ _ _ hf => (by cases hf)⟩
  | succ n ih =>
    refine ⟨fun x0 x1 x2 x3 x5 x6 x8 hf => ?_, ?_⟩
    · obtain ⟨y, hf, hi⟩ := pm_iter_s hf
      have hf : tX6_load_17 h x0 x1 x2 x3 x5 x6 x8 = some y := hf
      unfold tX6_load_17 at hf
      refine pm_iload C dX6_load_17 rfl ?_
      refine pm_if_lt (tgt := 47) C dX6_load_19 (by decide) (fun c7 => ?_) (fun c7 => ?_)
      · have hf := pm_it hf c7
        refine pm_iload_n C dX6_load_47 rfl rfl ?_
        refine pm_bipush (v := 44) C dX6_load_48 (by decide) ?_
        refine pm_icmp_lt (tgt := 63) C dX6_load_50 (by decide) (fun c8 => ?_) (fun c8 => ?_)
        · have hf := pm_it hf c8
          cases hf
          exact pm_sub [2, 4, 5] rfl (ih.2 x2 x5 x6 hi)
        · have hf := pm_ie hf c8
          refine pm_iload_n C dX6_load_53 rfl rfl ?_
          refine pm_iconst (v := 1) C dX6_load_54 (by decide) ?_
          refine pm_iand C dX6_load_55 ?_
          refine pm_if_ne (tgt := 63) C dX6_load_56 (by decide) (fun c9 => ?_) (fun c9 => ?_)
          · have hf := pm_ie hf c9
            cases hf
            exact pm_sub [2, 4, 5] rfl (ih.2 x2 x5 x6 hi)
          · have hf := pm_it hf c9
            refine pm_iconst (v := 1) C dX6_load_59 (by decide) ?_
            refine pm_goto (tgt := 64) C dX6_load_60 (by decide) ?_
            refine pm_istore (lv' := [(8, .int 1), (0, .ref x0), (1, .int x1), (2, .int x2), (3, .long x3), (5, .int x5), (6, .long x6)]) C dX6_load_64 (pm_nl X (by decide)) rfl ?_
            refine pm_iload C dX6_load_66 rfl ?_
            refine pm_if_ne (tgt := 74) C dX6_load_68 (by decide) (fun c10 => ?_) (fun c10 => ?_)
            · have hf := pm_ie hf c10
              refine pm_bipush (v := 64) C dX6_load_74 (by decide) ?_
              refine pm_bipush (v := 8) C dX6_load_76 (by decide) ?_
              refine pm_iload C dX6_load_78 rfl ?_
              refine pm_imul C dX6_load_80 ?_
              refine pm_isub C dX6_load_81 ?_
              obtain ⟨y11, e12, hf⟩ := pm_lt hf
              refine pm_topI e12 ?_
              refine pm_istore (lv' := [(9, .int y11), (8, .int 1), (0, .ref x0), (1, .int x1), (2, .int x2), (3, .long x3), (5, .int x5), (6, .long x6)]) C dX6_load_82 (pm_nl X (by decide)) rfl ?_
              refine pm_lload C dX6_load_84 rfl ?_
              refine pm_iload C dX6_load_86 rfl ?_
              refine pm_lshl C dX6_load_88 ?_
              refine pm_iload C dX6_load_89 rfl ?_
              refine pm_lshr C dX6_load_91 ?_
              obtain ⟨y13, e14, hf⟩ := pm_lt hf
              refine pm_topL e14 ?_
              refine pm_lstore (lv' := [(6, .long y13), (9, .int y11), (8, .int 1), (0, .ref x0), (1, .int x1), (2, .int x2), (3, .long x3), (5, .int x5)]) C dX6_load_92 (pm_nl X (by decide)) rfl ?_
              refine pm_iload_n C dX6_load_94 rfl rfl ?_
              refine pm_bipush (v := 48) C dX6_load_95 (by decide) ?_
              refine pm_icmp_ge (tgt := 109) C dX6_load_97 (by decide) (fun c15 => ?_) (fun c15 => ?_)
              · have hf := pm_it hf c15
                refine pm_lload C dX6_load_109 rfl ?_
                cases hf
                cases hi
                exact pm_lret C X dX6_load_111 rfl (Nat.le_refl _) (Nat.le_refl _) q
              · have hf := pm_ie hf c15
                refine pm_lload C dX6_load_100 rfl ?_
                refine pm_ldc2 C dX6_load_102 cnX6_76 ?_
                refine pm_land C dX6_load_105 ?_
                refine pm_goto (tgt := 111) C dX6_load_106 (by decide) ?_
                cases hf
                cases hi
                exact pm_lret C X dX6_load_111 rfl (Nat.le_refl _) (Nat.le_refl _) q
            · have hf := pm_it hf c10
              refine pm_lload C dX6_load_71 rfl ?_
              cases hf
              cases hi
              exact pm_lret C X dX6_load_73 rfl (Nat.le_refl _) (Nat.le_refl _) q
      · have hf := pm_ie hf c7
        refine pm_lload C dX6_load_22 rfl ?_
        refine pm_bipush (v := 8) C dX6_load_24 (by decide) ?_
        refine pm_lshl C dX6_load_26 ?_
        refine pm_aload_n C dX6_load_27 rfl rfl ?_
        refine pm_iload_n C dX6_load_28 rfl rfl ?_
        refine pm_lload_n C dX6_load_29 rfl rfl ?_
        refine pm_iload C dX6_load_30 rfl ?_
        refine pm_i2l C dX6_load_32 ?_
        refine pm_ladd C dX6_load_33 ?_
        obtain ⟨k16, hf⟩ := pm_if hf
        obtain ⟨v17, e18, hf⟩ := pm_bd hf
        refine pm_callV (as := [.int x1, .long (x3 + x8.toInt64)]) (st := [.long (x6 <<< ((8 : Int32).toInt64 &&& 63))]) C X dX6_load_34 lnX6_73 myX6_byteAt viX6_byteAt ⟨by decide, by decide⟩ rfl rfl k16 (Nat.le_of_ble_eq_true rfl) (Nat.le_refl _) (Nat.le_refl _) (ctX6_byteAt e18 ?_)
        show pm_G g 37 [(0, .ref x0), (1, .int x1), (2, .int x2), (3, .long x3), (5, .int x5), (6, .long x6), (8, .int x8)] [.int v17, .long (x6 <<< ((8 : Int32).toInt64 &&& 63))] h 0 0
        refine pm_i2l C dX6_load_37 ?_
        refine pm_lor C dX6_load_38 ?_
        obtain ⟨y19, e20, hf⟩ := pm_lt hf
        refine pm_topL e20 ?_
        refine pm_lstore (lv' := [(6, .long y19), (0, .ref x0), (1, .int x1), (2, .int x2), (3, .long x3), (5, .int x5), (8, .int x8)]) C dX6_load_39 (pm_nl X (by decide)) rfl ?_
        obtain ⟨y21, e22, hf⟩ := pm_lt hf
        refine pm_iinc (v := y21) (lv' := [(8, .int y21), (6, .long y19), (0, .ref x0), (1, .int x1), (2, .int x2), (3, .long x3), (5, .int x5)]) C dX6_load_41 rfl ((congrArg (x8 + ·) (by decide : Int32.ofInt (-1) = (-1))).trans e22) (pm_nl X (by decide)) rfl ?_
        refine pm_goto (tgt := 17) C dX6_load_44 (by decide) ?_
        cases hf
        exact pm_sub [2, 3, 4, 5, 6, 1, 0] rfl (ih.1 x0 x1 x2 x3 x5 y19 y21 hi)
    refine fun x2 x5 x6 hf => ?_
    obtain ⟨y, hf, hi⟩ := pm_iter_s hf
    have hf : tX6_load_63 h x2 x5 x6 = some y := hf
    unfold tX6_load_63 at hf
    refine pm_iconst (v := 0) C dX6_load_63 (by decide) ?_
    refine pm_istore (lv' := [(8, .int 0), (2, .int x2), (5, .int x5), (6, .long x6)]) C dX6_load_64 (pm_nl X (by decide)) rfl ?_
    refine pm_iload C dX6_load_66 rfl ?_
    refine pm_if_ne (tgt := 74) C dX6_load_68 (by decide) (fun c23 => ?_) (fun c23 => ?_)
    · have hf := pm_ie hf c23
      refine pm_bipush (v := 64) C dX6_load_74 (by decide) ?_
      refine pm_bipush (v := 8) C dX6_load_76 (by decide) ?_
      refine pm_iload C dX6_load_78 rfl ?_
      refine pm_imul C dX6_load_80 ?_
      refine pm_isub C dX6_load_81 ?_
      obtain ⟨y24, e25, hf⟩ := pm_lt hf
      refine pm_topI e25 ?_
      refine pm_istore (lv' := [(9, .int y24), (8, .int 0), (2, .int x2), (5, .int x5), (6, .long x6)]) C dX6_load_82 (pm_nl X (by decide)) rfl ?_
      refine pm_lload C dX6_load_84 rfl ?_
      refine pm_iload C dX6_load_86 rfl ?_
      refine pm_lshl C dX6_load_88 ?_
      refine pm_iload C dX6_load_89 rfl ?_
      refine pm_lshr C dX6_load_91 ?_
      obtain ⟨y26, e27, hf⟩ := pm_lt hf
      refine pm_topL e27 ?_
      refine pm_lstore (lv' := [(6, .long y26), (9, .int y24), (8, .int 0), (2, .int x2), (5, .int x5)]) C dX6_load_92 (pm_nl X (by decide)) rfl ?_
      refine pm_iload_n C dX6_load_94 rfl rfl ?_
      refine pm_bipush (v := 48) C dX6_load_95 (by decide) ?_
      refine pm_icmp_ge (tgt := 109) C dX6_load_97 (by decide) (fun c28 => ?_) (fun c28 => ?_)
      · have hf := pm_it hf c28
        refine pm_lload C dX6_load_109 rfl ?_
        cases hf
        cases hi
        exact pm_lret C X dX6_load_111 rfl (Nat.le_refl _) (Nat.le_refl _) q
      · have hf := pm_ie hf c28
        refine pm_lload C dX6_load_100 rfl ?_
        refine pm_ldc2 C dX6_load_102 cnX6_76 ?_
        refine pm_land C dX6_load_105 ?_
        refine pm_goto (tgt := 111) C dX6_load_106 (by decide) ?_
        cases hf
        cases hi
        exact pm_lret C X dX6_load_111 rfl (Nat.le_refl _) (Nat.le_refl _) q
    · have hf := pm_it hf c23
      refine pm_lload C dX6_load_71 rfl ?_
      cases hf
      cases hi
      exact pm_lret C X dX6_load_73 rfl (Nat.le_refl _) (Nat.le_refl _) q
set_option maxHeartbeats 4000000 in
set_option maxRecDepth 100000 in
theorem ctX6_load {l : Launch} {G : pm_Gl} {h : pm_H} {a0 : Nat} {p1 : Int32} {p2 : Int32} {p3 : Int64} {r : Int64} {Qr : Option Value → pm_H → Prop} (hf : fX6_load h a0 p1 p2 p3 = some r) (q : Qr (some (.long r)) h) : pm_Ct l G mX6_load [.ref a0, .int p1, .int p2, .long p3] h 0 0 Qr := by
  refine pm_body pnX6 (Nat.le_of_ble_eq_true rfl) (fun g C X => ?_)
  have C : pm_C g cX6_load RX6 := C
  show pm_G g 0 [(0, .ref a0), (1, .int p1), (2, .int p2), (3, .long p3)] [] h 0 0
  unfold fX6_load at hf
  refine pm_iconst (v := 1) C dX6_load_0 (by decide) ?_
  refine pm_iload_n C dX6_load_1 rfl rfl ?_
  obtain ⟨v1, e2, hf⟩ := pm_bd hf
  refine pm_callS (as := [.int p2]) (st := [.int 1]) C X dX6_load_2 lnX6_69 myX6_logOfWidth stX6_logOfWidth ⟨by decide, by decide⟩ rfl rfl (Nat.le_of_ble_eq_true rfl) (Nat.le_refl _) (Nat.le_refl _) (ctX6_logOfWidth e2 ?_)
  show pm_G g 5 [(0, .ref a0), (1, .int p1), (2, .int p2), (3, .long p3)] [.int v1, .int 1] h 0 0
  refine pm_ishl C dX6_load_5 ?_
  obtain ⟨y3, e4, hf⟩ := pm_lt hf
  refine pm_topI e4 ?_
  refine pm_istore (lv' := [(5, .int y3), (0, .ref a0), (1, .int p1), (2, .int p2), (3, .long p3)]) C dX6_load_6 (pm_nl X (by decide)) rfl ?_
  refine pm_lconst (v := 0) C dX6_load_8 (by decide) ?_
  refine pm_lstore (lv' := [(6, .long 0), (5, .int y3), (0, .ref a0), (1, .int p1), (2, .int p2), (3, .long p3)]) C dX6_load_9 (pm_nl X (by decide)) rfl ?_
  refine pm_iload C dX6_load_11 rfl ?_
  refine pm_iconst (v := 1) C dX6_load_13 (by decide) ?_
  refine pm_isub C dX6_load_14 ?_
  obtain ⟨y5, e6, hf⟩ := pm_lt hf
  refine pm_topI e6 ?_
  refine pm_istore (lv' := [(8, .int y5), (6, .long 0), (5, .int y3), (0, .ref a0), (1, .int p1), (2, .int p2), (3, .long p3)]) C dX6_load_15 (pm_nl X (by decide)) rfl ?_
  obtain ⟨n, hn⟩ := pm_lim_iter hf
  exact pm_sub [3, 4, 5, 6, 2, 1, 0] rfl ((lpX6_load C X q n).1 a0 p1 p2 p3 y3 0 y5 hn)
