theorem dX16_real_0 : decode cX16_real 0 = .ok (.iload_n 1, 1) := by decide +kernel
theorem dX16_real_1 : decode cX16_real 1 = .ok (.tableswitch 160 0 12 #[67, 78, 85, 85, 85, 85, 95, 102, 102, 122, 131, 140, 140], 67) := by decide +kernel
theorem dX16_real_68 : decode cX16_real 68 = .ok (.lload_n 3, 1) := by decide +kernel
theorem dX16_real_69 : decode cX16_real 69 = .ok (.iload_n 2, 1) := by decide +kernel
theorem dX16_real_70 : decode cX16_real 70 = .ok (.invokestatic 865, 3) := by decide +kernel
theorem dX16_real_73 : decode cX16_real 73 = .ok (.ldc2_w 268, 3) := by decide +kernel
theorem dX16_real_76 : decode cX16_real 76 = .ok (.lxor, 1) := by decide +kernel
theorem dX16_real_77 : decode cX16_real 77 = .ok (.land, 1) := by decide +kernel
theorem dX16_real_78 : decode cX16_real 78 = .ok (.lreturn, 1) := by decide +kernel
theorem dX16_real_79 : decode cX16_real 79 = .ok (.lload_n 3, 1) := by decide +kernel
theorem dX16_real_80 : decode cX16_real 80 = .ok (.iload_n 2, 1) := by decide +kernel
theorem dX16_real_81 : decode cX16_real 81 = .ok (.invokestatic 865, 3) := by decide +kernel
theorem dX16_real_84 : decode cX16_real 84 = .ok (.lxor, 1) := by decide +kernel
theorem dX16_real_85 : decode cX16_real 85 = .ok (.lreturn, 1) := by decide +kernel
theorem dX16_real_86 : decode cX16_real 86 = .ok (.aload_n 0, 1) := by decide +kernel
theorem dX16_real_87 : decode cX16_real 87 = .ok (.iload_n 1, 1) := by decide +kernel
theorem dX16_real_88 : decode cX16_real 88 = .ok (.iconst 2, 1) := by decide +kernel
theorem dX16_real_89 : decode cX16_real 89 = .ok (.isub, 1) := by decide +kernel
theorem dX16_real_90 : decode cX16_real 90 = .ok (.iload_n 2, 1) := by decide +kernel
theorem dX16_real_91 : decode cX16_real 91 = .ok (.lload_n 3, 1) := by decide +kernel
theorem dX16_real_92 : decode cX16_real 92 = .ok (.invokevirtual 891, 3) := by decide +kernel
theorem dX16_real_95 : decode cX16_real 95 = .ok (.lreturn, 1) := by decide +kernel
theorem dX16_real_96 : decode cX16_real 96 = .ok (.aload_n 0, 1) := by decide +kernel
theorem dX16_real_97 : decode cX16_real 97 = .ok (.iload_n 2, 1) := by decide +kernel
theorem dX16_real_98 : decode cX16_real 98 = .ok (.lload_n 3, 1) := by decide +kernel
theorem dX16_real_99 : decode cX16_real 99 = .ok (.invokevirtual 894, 3) := by decide +kernel
theorem dX16_real_102 : decode cX16_real 102 = .ok (.lreturn, 1) := by decide +kernel
theorem dX16_real_103 : decode cX16_real 103 = .ok (.aload_n 0, 1) := by decide +kernel
theorem dX16_real_104 : decode cX16_real 104 = .ok (.iload_n 2, 1) := by decide +kernel
theorem dX16_real_105 : decode cX16_real 105 = .ok (.lload_n 3, 1) := by decide +kernel
theorem dX16_real_106 : decode cX16_real 106 = .ok (.lload 5, 2) := by decide +kernel
theorem dX16_real_108 : decode cX16_real 108 = .ok (.iload_n 1, 1) := by decide +kernel
theorem dX16_real_109 : decode cX16_real 109 = .ok (.bipush 8, 2) := by decide +kernel
theorem dX16_real_111 : decode cX16_real 111 = .ok (.if_icmp .ne 7, 3) := by decide +kernel
theorem dX16_real_114 : decode cX16_real 114 = .ok (.iconst 1, 1) := by decide +kernel
theorem dX16_real_115 : decode cX16_real 115 = .ok (.goto 4, 3) := by decide +kernel
theorem dX16_real_118 : decode cX16_real 118 = .ok (.iconst 0, 1) := by decide +kernel
theorem dX16_real_119 : decode cX16_real 119 = .ok (.invokevirtual 897, 3) := by decide +kernel
theorem dX16_real_122 : decode cX16_real 122 = .ok (.lreturn, 1) := by decide +kernel
theorem dX16_real_123 : decode cX16_real 123 = .ok (.aload_n 0, 1) := by decide +kernel
theorem dX16_real_124 : decode cX16_real 124 = .ok (.iload_n 2, 1) := by decide +kernel
theorem dX16_real_125 : decode cX16_real 125 = .ok (.lload_n 3, 1) := by decide +kernel
theorem dX16_real_126 : decode cX16_real 126 = .ok (.lload 5, 2) := by decide +kernel
theorem dX16_real_128 : decode cX16_real 128 = .ok (.invokevirtual 901, 3) := by decide +kernel
theorem dX16_real_131 : decode cX16_real 131 = .ok (.lreturn, 1) := by decide +kernel
theorem dX16_real_132 : decode cX16_real 132 = .ok (.aload_n 0, 1) := by decide +kernel
theorem dX16_real_133 : decode cX16_real 133 = .ok (.iload_n 2, 1) := by decide +kernel
theorem dX16_real_134 : decode cX16_real 134 = .ok (.lload_n 3, 1) := by decide +kernel
theorem dX16_real_135 : decode cX16_real 135 = .ok (.lload 5, 2) := by decide +kernel
theorem dX16_real_137 : decode cX16_real 137 = .ok (.invokevirtual 904, 3) := by decide +kernel
theorem dX16_real_140 : decode cX16_real 140 = .ok (.lreturn, 1) := by decide +kernel
theorem dX16_real_141 : decode cX16_real 141 = .ok (.aload_n 0, 1) := by decide +kernel
theorem dX16_real_142 : decode cX16_real 142 = .ok (.iload_n 2, 1) := by decide +kernel
theorem dX16_real_143 : decode cX16_real 143 = .ok (.lload_n 3, 1) := by decide +kernel
theorem dX16_real_144 : decode cX16_real 144 = .ok (.lload 5, 2) := by decide +kernel
theorem dX16_real_146 : decode cX16_real 146 = .ok (.iload_n 1, 1) := by decide +kernel
theorem dX16_real_147 : decode cX16_real 147 = .ok (.bipush 11, 2) := by decide +kernel
theorem dX16_real_149 : decode cX16_real 149 = .ok (.if_icmp .ne 7, 3) := by decide +kernel
theorem dX16_real_152 : decode cX16_real 152 = .ok (.iconst 1, 1) := by decide +kernel
theorem dX16_real_153 : decode cX16_real 153 = .ok (.goto 4, 3) := by decide +kernel
theorem dX16_real_156 : decode cX16_real 156 = .ok (.iconst 0, 1) := by decide +kernel
theorem dX16_real_157 : decode cX16_real 157 = .ok (.invokevirtual 907, 3) := by decide +kernel
theorem dX16_real_160 : decode cX16_real 160 = .ok (.lreturn, 1) := by decide +kernel
theorem dX16_real_161 : decode cX16_real 161 = .ok (.lload_n 3, 1) := by decide +kernel
theorem dX16_real_162 : decode cX16_real 162 = .ok (.iload_n 2, 1) := by decide +kernel
theorem dX16_real_163 : decode cX16_real 163 = .ok (.invokestatic 865, 3) := by decide +kernel
theorem dX16_real_166 : decode cX16_real 166 = .ok (.ldc2_w 268, 3) := by decide +kernel
theorem dX16_real_169 : decode cX16_real 169 = .ok (.lxor, 1) := by decide +kernel
theorem dX16_real_170 : decode cX16_real 170 = .ok (.land, 1) := by decide +kernel
theorem dX16_real_171 : decode cX16_real 171 = .ok (.lload 5, 2) := by decide +kernel
theorem dX16_real_173 : decode cX16_real 173 = .ok (.iload_n 2, 1) := by decide +kernel
theorem dX16_real_174 : decode cX16_real 174 = .ok (.invokestatic 865, 3) := by decide +kernel
theorem dX16_real_177 : decode cX16_real 177 = .ok (.land, 1) := by decide +kernel
theorem dX16_real_178 : decode cX16_real 178 = .ok (.lor, 1) := by decide +kernel
theorem dX16_real_179 : decode cX16_real 179 = .ok (.lreturn, 1) := by decide +kernel
noncomputable def fX16_real (h : pm_H) (a0 : Nat) (p1 : Int32) (p2 : Int32) (p3 : Int64) (p4 : Int64) : Option (Int64 × pm_H) := if p1 = 0 then (pm_let (fX16_signOf p2) fun v2 => some ((p3 &&& (v2 ^^^ (-1)), h))) else (if p1 = 1 then (pm_let (fX16_signOf p2) fun v5 => some ((p3 ^^^ v5, h))) else (if p1 = 2 then (if pm_kd h a0 = 16 then (fX16_wholeOf h a0 (p1 - 2) p2 p3).bind fun v9 => some ((v9.1, v9.2)) else none) else (if p1 = 3 then (if pm_kd h a0 = 16 then (fX16_wholeOf h a0 (p1 - 2) p2 p3).bind fun v13 => some ((v13.1, v13.2)) else none) else (if p1 = 4 then (if pm_kd h a0 = 16 then (fX16_wholeOf h a0 (p1 - 2) p2 p3).bind fun v17 => some ((v17.1, v17.2)) else none) else (if p1 = 5 then (if pm_kd h a0 = 16 then (fX16_wholeOf h a0 (p1 - 2) p2 p3).bind fun v21 => some ((v21.1, v21.2)) else none) else (if p1 = 6 then (if pm_kd h a0 = 16 then (fX16_root h a0 p2 p3).bind fun v25 => some ((v25.1, v25.2)) else none) else (if p1 = 7 then (if p1 = 8 then (if pm_kd h a0 = 16 then (fX16_sum h a0 p2 p3 p4 1).bind fun v33 => some ((v33.1, v33.2)) else none) else (if pm_kd h a0 = 16 then (fX16_sum h a0 p2 p3 p4 0).bind fun v30 => some ((v30.1, v30.2)) else none)) else (if p1 = 8 then (if p1 = 8 then (if pm_kd h a0 = 16 then (fX16_sum h a0 p2 p3 p4 1).bind fun v41 => some ((v41.1, v41.2)) else none) else (if pm_kd h a0 = 16 then (fX16_sum h a0 p2 p3 p4 0).bind fun v38 => some ((v38.1, v38.2)) else none)) else (if p1 = 9 then (if pm_kd h a0 = 16 then (fX16_product h a0 p2 p3 p4).bind fun v45 => some ((v45.1, v45.2)) else none) else (if p1 = 10 then (if pm_kd h a0 = 16 then (fX16_quotient h a0 p2 p3 p4).bind fun v49 => some ((v49.1, v49.2)) else none) else (if p1 = 11 then (if p1 = 11 then (if pm_kd h a0 = 16 then (fX16_extreme h a0 p2 p3 p4 1).bind fun v57 => some ((v57.1, v57.2)) else none) else (if pm_kd h a0 = 16 then (fX16_extreme h a0 p2 p3 p4 0).bind fun v54 => some ((v54.1, v54.2)) else none)) else (if p1 = 12 then (if p1 = 11 then (if pm_kd h a0 = 16 then (fX16_extreme h a0 p2 p3 p4 1).bind fun v65 => some ((v65.1, v65.2)) else none) else (if pm_kd h a0 = 16 then (fX16_extreme h a0 p2 p3 p4 0).bind fun v62 => some ((v62.1, v62.2)) else none)) else (pm_let (fX16_signOf p2) fun v67 => pm_let (fX16_signOf p2) fun v69 => some (((p3 &&& (v67 ^^^ (-1))) ||| (p4 &&& v69), h)))))))))))))))
set_option maxHeartbeats 4000000 in
set_option maxRecDepth 100000 in
theorem ctX16_real {l : Launch} {G : pm_Gl} {h : pm_H} {a0 : Nat} {p1 : Int32} {p2 : Int32} {p3 : Int64} {p4 : Int64} {r : (Int64 × pm_H)} {Qr : Option Value → pm_H → Prop} (hf : fX16_real h a0 p1 p2 p3 p4 = some r) (q : Qr (some (.long r.1)) r.2) : pm_Ct l G mX16_real [.ref a0, .int p1, .int p2, .long p3, .long p4] h 0 0 Qr := by
  refine pm_body pnX16 (Nat.le_of_ble_eq_true rfl) (fun g C X => ?_)
  have C : pm_C g cX16_real RX16 := C
  show pm_G g 0 [(0, .ref a0), (1, .int p1), (2, .int p2), (3, .long p3), (5, .long p4)] [] h 0 0
  unfold fX16_real at hf
  refine pm_iload_n C dX16_real_0 rfl rfl ?_
  by_cases c1 : p1 = 0
  · have hf := pm_it hf c1
    refine pm_tableIn (tgt := 68) C dX16_real_1 (by rw [c1]; decide) (by rw [c1]; decide) (by rw [c1]; rfl) (by decide) ?_
    refine pm_lload_n C dX16_real_68 rfl rfl ?_
    refine pm_iload_n C dX16_real_69 rfl rfl ?_
    obtain ⟨v2, e3, hf⟩ := pm_lt hf
    refine pm_callS (as := [.int p2]) (st := [.long p3]) C X dX16_real_70 lnX16_865 myX16_signOf stX16_signOf ⟨by decide, by decide⟩ rfl rfl (Nat.le_of_ble_eq_true rfl) (Nat.le_refl _) (Nat.le_refl _) (ctX16_signOf e3 ?_)
    show pm_G g 73 [(0, .ref a0), (1, .int p1), (2, .int p2), (3, .long p3), (5, .long p4)] [.long v2, .long p3] h 0 0
    refine pm_ldc2 C dX16_real_73 cnX16_268 ?_
    refine pm_lxor C dX16_real_76 ?_
    refine pm_land C dX16_real_77 ?_
    cases hf
    exact pm_lret C X dX16_real_78 rfl (Nat.le_refl _) (Nat.le_refl _) q
  have hf := pm_ie hf c1
  by_cases c4 : p1 = 1
  · have hf := pm_it hf c4
    refine pm_tableIn (tgt := 79) C dX16_real_1 (by rw [c4]; decide) (by rw [c4]; decide) (by rw [c4]; rfl) (by decide) ?_
    refine pm_lload_n C dX16_real_79 rfl rfl ?_
    refine pm_iload_n C dX16_real_80 rfl rfl ?_
    obtain ⟨v5, e6, hf⟩ := pm_lt hf
    refine pm_callS (as := [.int p2]) (st := [.long p3]) C X dX16_real_81 lnX16_865 myX16_signOf stX16_signOf ⟨by decide, by decide⟩ rfl rfl (Nat.le_of_ble_eq_true rfl) (Nat.le_refl _) (Nat.le_refl _) (ctX16_signOf e6 ?_)
    show pm_G g 84 [(0, .ref a0), (1, .int p1), (2, .int p2), (3, .long p3), (5, .long p4)] [.long v5, .long p3] h 0 0
    refine pm_lxor C dX16_real_84 ?_
    cases hf
    exact pm_lret C X dX16_real_85 rfl (Nat.le_refl _) (Nat.le_refl _) q
  have hf := pm_ie hf c4
  by_cases c7 : p1 = 2
  · have hf := pm_it hf c7
    refine pm_tableIn (tgt := 86) C dX16_real_1 (by rw [c7]; decide) (by rw [c7]; decide) (by rw [c7]; rfl) (by decide) ?_
    refine pm_aload_n C dX16_real_86 rfl rfl ?_
    refine pm_iload_n C dX16_real_87 rfl rfl ?_
    refine pm_iconst (v := 2) C dX16_real_88 (by decide) ?_
    refine pm_isub C dX16_real_89 ?_
    refine pm_iload_n C dX16_real_90 rfl rfl ?_
    refine pm_lload_n C dX16_real_91 rfl rfl ?_
    obtain ⟨k8, hf⟩ := pm_if hf
    obtain ⟨v9, e10, hf⟩ := pm_bd hf
    refine pm_callV (as := [.int (p1 - 2), .int p2, .long p3]) (st := []) C X dX16_real_92 lnX16_891 myX16_wholeOf viX16_wholeOf ⟨by decide, by decide⟩ rfl rfl k8 (Nat.le_of_ble_eq_true rfl) (Nat.le_refl _) (Nat.le_refl _) (ctX16_wholeOf e10 ?_)
    show pm_G g 95 [(0, .ref a0), (1, .int p1), (2, .int p2), (3, .long p3), (5, .long p4)] [.long v9.1] v9.2 0 0
    cases hf
    exact pm_lret C X dX16_real_95 rfl (Nat.le_refl _) (Nat.le_refl _) q
  have hf := pm_ie hf c7
  by_cases c11 : p1 = 3
  · have hf := pm_it hf c11
    refine pm_tableIn (tgt := 86) C dX16_real_1 (by rw [c11]; decide) (by rw [c11]; decide) (by rw [c11]; rfl) (by decide) ?_
    refine pm_aload_n C dX16_real_86 rfl rfl ?_
    refine pm_iload_n C dX16_real_87 rfl rfl ?_
    refine pm_iconst (v := 2) C dX16_real_88 (by decide) ?_
    refine pm_isub C dX16_real_89 ?_
    refine pm_iload_n C dX16_real_90 rfl rfl ?_
    refine pm_lload_n C dX16_real_91 rfl rfl ?_
    obtain ⟨k12, hf⟩ := pm_if hf
    obtain ⟨v13, e14, hf⟩ := pm_bd hf
    refine pm_callV (as := [.int (p1 - 2), .int p2, .long p3]) (st := []) C X dX16_real_92 lnX16_891 myX16_wholeOf viX16_wholeOf ⟨by decide, by decide⟩ rfl rfl k12 (Nat.le_of_ble_eq_true rfl) (Nat.le_refl _) (Nat.le_refl _) (ctX16_wholeOf e14 ?_)
    show pm_G g 95 [(0, .ref a0), (1, .int p1), (2, .int p2), (3, .long p3), (5, .long p4)] [.long v13.1] v13.2 0 0
    cases hf
    exact pm_lret C X dX16_real_95 rfl (Nat.le_refl _) (Nat.le_refl _) q
  have hf := pm_ie hf c11
  by_cases c15 : p1 = 4
  · have hf := pm_it hf c15
    refine pm_tableIn (tgt := 86) C dX16_real_1 (by rw [c15]; decide) (by rw [c15]; decide) (by rw [c15]; rfl) (by decide) ?_
    refine pm_aload_n C dX16_real_86 rfl rfl ?_
    refine pm_iload_n C dX16_real_87 rfl rfl ?_
    refine pm_iconst (v := 2) C dX16_real_88 (by decide) ?_
    refine pm_isub C dX16_real_89 ?_
    refine pm_iload_n C dX16_real_90 rfl rfl ?_
    refine pm_lload_n C dX16_real_91 rfl rfl ?_
    obtain ⟨k16, hf⟩ := pm_if hf
    obtain ⟨v17, e18, hf⟩ := pm_bd hf
    refine pm_callV (as := [.int (p1 - 2), .int p2, .long p3]) (st := []) C X dX16_real_92 lnX16_891 myX16_wholeOf viX16_wholeOf ⟨by decide, by decide⟩ rfl rfl k16 (Nat.le_of_ble_eq_true rfl) (Nat.le_refl _) (Nat.le_refl _) (ctX16_wholeOf e18 ?_)
    show pm_G g 95 [(0, .ref a0), (1, .int p1), (2, .int p2), (3, .long p3), (5, .long p4)] [.long v17.1] v17.2 0 0
    cases hf
    exact pm_lret C X dX16_real_95 rfl (Nat.le_refl _) (Nat.le_refl _) q
  have hf := pm_ie hf c15
  by_cases c19 : p1 = 5
  · have hf := pm_it hf c19
    refine pm_tableIn (tgt := 86) C dX16_real_1 (by rw [c19]; decide) (by rw [c19]; decide) (by rw [c19]; rfl) (by decide) ?_
    refine pm_aload_n C dX16_real_86 rfl rfl ?_
    refine pm_iload_n C dX16_real_87 rfl rfl ?_
    refine pm_iconst (v := 2) C dX16_real_88 (by decide) ?_
    refine pm_isub C dX16_real_89 ?_
    refine pm_iload_n C dX16_real_90 rfl rfl ?_
    refine pm_lload_n C dX16_real_91 rfl rfl ?_
    obtain ⟨k20, hf⟩ := pm_if hf
    obtain ⟨v21, e22, hf⟩ := pm_bd hf
    refine pm_callV (as := [.int (p1 - 2), .int p2, .long p3]) (st := []) C X dX16_real_92 lnX16_891 myX16_wholeOf viX16_wholeOf ⟨by decide, by decide⟩ rfl rfl k20 (Nat.le_of_ble_eq_true rfl) (Nat.le_refl _) (Nat.le_refl _) (ctX16_wholeOf e22 ?_)
    show pm_G g 95 [(0, .ref a0), (1, .int p1), (2, .int p2), (3, .long p3), (5, .long p4)] [.long v21.1] v21.2 0 0
    cases hf
    exact pm_lret C X dX16_real_95 rfl (Nat.le_refl _) (Nat.le_refl _) q
  have hf := pm_ie hf c19
  by_cases c23 : p1 = 6
  · have hf := pm_it hf c23
    refine pm_tableIn (tgt := 96) C dX16_real_1 (by rw [c23]; decide) (by rw [c23]; decide) (by rw [c23]; rfl) (by decide) ?_
    refine pm_aload_n C dX16_real_96 rfl rfl ?_
    refine pm_iload_n C dX16_real_97 rfl rfl ?_
    refine pm_lload_n C dX16_real_98 rfl rfl ?_
    obtain ⟨k24, hf⟩ := pm_if hf
    obtain ⟨v25, e26, hf⟩ := pm_bd hf
    refine pm_callV (as := [.int p2, .long p3]) (st := []) C X dX16_real_99 lnX16_894 myX16_root viX16_root ⟨by decide, by decide⟩ rfl rfl k24 (Nat.le_of_ble_eq_true rfl) (Nat.le_refl _) (Nat.le_refl _) (ctX16_root e26 ?_)
    show pm_G g 102 [(0, .ref a0), (1, .int p1), (2, .int p2), (3, .long p3), (5, .long p4)] [.long v25.1] v25.2 0 0
    cases hf
    exact pm_lret C X dX16_real_102 rfl (Nat.le_refl _) (Nat.le_refl _) q
  have hf := pm_ie hf c23
  by_cases c27 : p1 = 7
  · have hf := pm_it hf c27
    refine pm_tableIn (tgt := 103) C dX16_real_1 (by rw [c27]; decide) (by rw [c27]; decide) (by rw [c27]; rfl) (by decide) ?_
    refine pm_aload_n C dX16_real_103 rfl rfl ?_
    refine pm_iload_n C dX16_real_104 rfl rfl ?_
    refine pm_lload_n C dX16_real_105 rfl rfl ?_
    refine pm_lload C dX16_real_106 rfl ?_
    refine pm_iload_n C dX16_real_108 rfl rfl ?_
    refine pm_bipush (v := 8) C dX16_real_109 (by decide) ?_
    refine pm_icmp_ne (tgt := 118) C dX16_real_111 (by decide) (fun c28 => ?_) (fun c28 => ?_)
    · have hf := pm_ie hf c28
      refine pm_iconst (v := 0) C dX16_real_118 (by decide) ?_
      obtain ⟨k29, hf⟩ := pm_if hf
      obtain ⟨v30, e31, hf⟩ := pm_bd hf
      refine pm_callV (as := [.int p2, .long p3, .long p4, .int 0]) (st := []) C X dX16_real_119 lnX16_897 myX16_sum viX16_sum ⟨by decide, by decide⟩ rfl rfl k29 (Nat.le_of_ble_eq_true rfl) (Nat.le_refl _) (Nat.le_refl _) (ctX16_sum e31 ?_)
      show pm_G g 122 [(0, .ref a0), (1, .int p1), (2, .int p2), (3, .long p3), (5, .long p4)] [.long v30.1] v30.2 0 0
      cases hf
      exact pm_lret C X dX16_real_122 rfl (Nat.le_refl _) (Nat.le_refl _) q
    · have hf := pm_it hf c28
      refine pm_iconst (v := 1) C dX16_real_114 (by decide) ?_
      refine pm_goto (tgt := 119) C dX16_real_115 (by decide) ?_
      obtain ⟨k32, hf⟩ := pm_if hf
      obtain ⟨v33, e34, hf⟩ := pm_bd hf
      refine pm_callV (as := [.int p2, .long p3, .long p4, .int 1]) (st := []) C X dX16_real_119 lnX16_897 myX16_sum viX16_sum ⟨by decide, by decide⟩ rfl rfl k32 (Nat.le_of_ble_eq_true rfl) (Nat.le_refl _) (Nat.le_refl _) (ctX16_sum e34 ?_)
      show pm_G g 122 [(0, .ref a0), (1, .int p1), (2, .int p2), (3, .long p3), (5, .long p4)] [.long v33.1] v33.2 0 0
      cases hf
      exact pm_lret C X dX16_real_122 rfl (Nat.le_refl _) (Nat.le_refl _) q
  have hf := pm_ie hf c27
  by_cases c35 : p1 = 8
  · have hf := pm_it hf c35
    refine pm_tableIn (tgt := 103) C dX16_real_1 (by rw [c35]; decide) (by rw [c35]; decide) (by rw [c35]; rfl) (by decide) ?_
    refine pm_aload_n C dX16_real_103 rfl rfl ?_
    refine pm_iload_n C dX16_real_104 rfl rfl ?_
    refine pm_lload_n C dX16_real_105 rfl rfl ?_
    refine pm_lload C dX16_real_106 rfl ?_
    refine pm_iload_n C dX16_real_108 rfl rfl ?_
    refine pm_bipush (v := 8) C dX16_real_109 (by decide) ?_
    refine pm_icmp_ne (tgt := 118) C dX16_real_111 (by decide) (fun c36 => ?_) (fun c36 => ?_)
    · have hf := pm_ie hf c36
      refine pm_iconst (v := 0) C dX16_real_118 (by decide) ?_
      obtain ⟨k37, hf⟩ := pm_if hf
      obtain ⟨v38, e39, hf⟩ := pm_bd hf
      refine pm_callV (as := [.int p2, .long p3, .long p4, .int 0]) (st := []) C X dX16_real_119 lnX16_897 myX16_sum viX16_sum ⟨by decide, by decide⟩ rfl rfl k37 (Nat.le_of_ble_eq_true rfl) (Nat.le_refl _) (Nat.le_refl _) (ctX16_sum e39 ?_)
      show pm_G g 122 [(0, .ref a0), (1, .int p1), (2, .int p2), (3, .long p3), (5, .long p4)] [.long v38.1] v38.2 0 0
      cases hf
      exact pm_lret C X dX16_real_122 rfl (Nat.le_refl _) (Nat.le_refl _) q
    · have hf := pm_it hf c36
      refine pm_iconst (v := 1) C dX16_real_114 (by decide) ?_
      refine pm_goto (tgt := 119) C dX16_real_115 (by decide) ?_
      obtain ⟨k40, hf⟩ := pm_if hf
      obtain ⟨v41, e42, hf⟩ := pm_bd hf
      refine pm_callV (as := [.int p2, .long p3, .long p4, .int 1]) (st := []) C X dX16_real_119 lnX16_897 myX16_sum viX16_sum ⟨by decide, by decide⟩ rfl rfl k40 (Nat.le_of_ble_eq_true rfl) (Nat.le_refl _) (Nat.le_refl _) (ctX16_sum e42 ?_)
      show pm_G g 122 [(0, .ref a0), (1, .int p1), (2, .int p2), (3, .long p3), (5, .long p4)] [.long v41.1] v41.2 0 0
      cases hf
      exact pm_lret C X dX16_real_122 rfl (Nat.le_refl _) (Nat.le_refl _) q
  have hf := pm_ie hf c35
  by_cases c43 : p1 = 9
  · have hf := pm_it hf c43
    refine pm_tableIn (tgt := 123) C dX16_real_1 (by rw [c43]; decide) (by rw [c43]; decide) (by rw [c43]; rfl) (by decide) ?_
    refine pm_aload_n C dX16_real_123 rfl rfl ?_
    refine pm_iload_n C dX16_real_124 rfl rfl ?_
    refine pm_lload_n C dX16_real_125 rfl rfl ?_
    refine pm_lload C dX16_real_126 rfl ?_
    obtain ⟨k44, hf⟩ := pm_if hf
    obtain ⟨v45, e46, hf⟩ := pm_bd hf
    refine pm_callV (as := [.int p2, .long p3, .long p4]) (st := []) C X dX16_real_128 lnX16_901 myX16_product viX16_product ⟨by decide, by decide⟩ rfl rfl k44 (Nat.le_of_ble_eq_true rfl) (Nat.le_refl _) (Nat.le_refl _) (ctX16_product e46 ?_)
    show pm_G g 131 [(0, .ref a0), (1, .int p1), (2, .int p2), (3, .long p3), (5, .long p4)] [.long v45.1] v45.2 0 0
    cases hf
    exact pm_lret C X dX16_real_131 rfl (Nat.le_refl _) (Nat.le_refl _) q
  have hf := pm_ie hf c43
  by_cases c47 : p1 = 10
  · have hf := pm_it hf c47
    refine pm_tableIn (tgt := 132) C dX16_real_1 (by rw [c47]; decide) (by rw [c47]; decide) (by rw [c47]; rfl) (by decide) ?_
    refine pm_aload_n C dX16_real_132 rfl rfl ?_
    refine pm_iload_n C dX16_real_133 rfl rfl ?_
    refine pm_lload_n C dX16_real_134 rfl rfl ?_
    refine pm_lload C dX16_real_135 rfl ?_
    obtain ⟨k48, hf⟩ := pm_if hf
    obtain ⟨v49, e50, hf⟩ := pm_bd hf
    refine pm_callV (as := [.int p2, .long p3, .long p4]) (st := []) C X dX16_real_137 lnX16_904 myX16_quotient viX16_quotient ⟨by decide, by decide⟩ rfl rfl k48 (Nat.le_of_ble_eq_true rfl) (Nat.le_refl _) (Nat.le_refl _) (ctX16_quotient e50 ?_)
    show pm_G g 140 [(0, .ref a0), (1, .int p1), (2, .int p2), (3, .long p3), (5, .long p4)] [.long v49.1] v49.2 0 0
    cases hf
    exact pm_lret C X dX16_real_140 rfl (Nat.le_refl _) (Nat.le_refl _) q
  have hf := pm_ie hf c47
  by_cases c51 : p1 = 11
  · have hf := pm_it hf c51
    refine pm_tableIn (tgt := 141) C dX16_real_1 (by rw [c51]; decide) (by rw [c51]; decide) (by rw [c51]; rfl) (by decide) ?_
    refine pm_aload_n C dX16_real_141 rfl rfl ?_
    refine pm_iload_n C dX16_real_142 rfl rfl ?_
    refine pm_lload_n C dX16_real_143 rfl rfl ?_
    refine pm_lload C dX16_real_144 rfl ?_
    refine pm_iload_n C dX16_real_146 rfl rfl ?_
    refine pm_bipush (v := 11) C dX16_real_147 (by decide) ?_
    refine pm_icmp_ne (tgt := 156) C dX16_real_149 (by decide) (fun c52 => ?_) (fun c52 => ?_)
    · have hf := pm_ie hf c52
      refine pm_iconst (v := 0) C dX16_real_156 (by decide) ?_
      obtain ⟨k53, hf⟩ := pm_if hf
      obtain ⟨v54, e55, hf⟩ := pm_bd hf
      refine pm_callV (as := [.int p2, .long p3, .long p4, .int 0]) (st := []) C X dX16_real_157 lnX16_907 myX16_extreme viX16_extreme ⟨by decide, by decide⟩ rfl rfl k53 (Nat.le_of_ble_eq_true rfl) (Nat.le_refl _) (Nat.le_refl _) (ctX16_extreme e55 ?_)
      show pm_G g 160 [(0, .ref a0), (1, .int p1), (2, .int p2), (3, .long p3), (5, .long p4)] [.long v54.1] v54.2 0 0
      cases hf
      exact pm_lret C X dX16_real_160 rfl (Nat.le_refl _) (Nat.le_refl _) q
    · have hf := pm_it hf c52
      refine pm_iconst (v := 1) C dX16_real_152 (by decide) ?_
      refine pm_goto (tgt := 157) C dX16_real_153 (by decide) ?_
      obtain ⟨k56, hf⟩ := pm_if hf
      obtain ⟨v57, e58, hf⟩ := pm_bd hf
      refine pm_callV (as := [.int p2, .long p3, .long p4, .int 1]) (st := []) C X dX16_real_157 lnX16_907 myX16_extreme viX16_extreme ⟨by decide, by decide⟩ rfl rfl k56 (Nat.le_of_ble_eq_true rfl) (Nat.le_refl _) (Nat.le_refl _) (ctX16_extreme e58 ?_)
      show pm_G g 160 [(0, .ref a0), (1, .int p1), (2, .int p2), (3, .long p3), (5, .long p4)] [.long v57.1] v57.2 0 0
      cases hf
      exact pm_lret C X dX16_real_160 rfl (Nat.le_refl _) (Nat.le_refl _) q
  have hf := pm_ie hf c51
  by_cases c59 : p1 = 12
  · have hf := pm_it hf c59
    refine pm_tableIn (tgt := 141) C dX16_real_1 (by rw [c59]; decide) (by rw [c59]; decide) (by rw [c59]; rfl) (by decide) ?_
    refine pm_aload_n C dX16_real_141 rfl rfl ?_
    refine pm_iload_n C dX16_real_142 rfl rfl ?_
    refine pm_lload_n C dX16_real_143 rfl rfl ?_
    refine pm_lload C dX16_real_144 rfl ?_
    refine pm_iload_n C dX16_real_146 rfl rfl ?_
    refine pm_bipush (v := 11) C dX16_real_147 (by decide) ?_
    refine pm_icmp_ne (tgt := 156) C dX16_real_149 (by decide) (fun c60 => ?_) (fun c60 => ?_)
    · have hf := pm_ie hf c60
      refine pm_iconst (v := 0) C dX16_real_156 (by decide) ?_
      obtain ⟨k61, hf⟩ := pm_if hf
      obtain ⟨v62, e63, hf⟩ := pm_bd hf
      refine pm_callV (as := [.int p2, .long p3, .long p4, .int 0]) (st := []) C X dX16_real_157 lnX16_907 myX16_extreme viX16_extreme ⟨by decide, by decide⟩ rfl rfl k61 (Nat.le_of_ble_eq_true rfl) (Nat.le_refl _) (Nat.le_refl _) (ctX16_extreme e63 ?_)
      show pm_G g 160 [(0, .ref a0), (1, .int p1), (2, .int p2), (3, .long p3), (5, .long p4)] [.long v62.1] v62.2 0 0
      cases hf
      exact pm_lret C X dX16_real_160 rfl (Nat.le_refl _) (Nat.le_refl _) q
    · have hf := pm_it hf c60
      refine pm_iconst (v := 1) C dX16_real_152 (by decide) ?_
      refine pm_goto (tgt := 157) C dX16_real_153 (by decide) ?_
      obtain ⟨k64, hf⟩ := pm_if hf
      obtain ⟨v65, e66, hf⟩ := pm_bd hf
      refine pm_callV (as := [.int p2, .long p3, .long p4, .int 1]) (st := []) C X dX16_real_157 lnX16_907 myX16_extreme viX16_extreme ⟨by decide, by decide⟩ rfl rfl k64 (Nat.le_of_ble_eq_true rfl) (Nat.le_refl _) (Nat.le_refl _) (ctX16_extreme e66 ?_)
      show pm_G g 160 [(0, .ref a0), (1, .int p1), (2, .int p2), (3, .long p3), (5, .long p4)] [.long v65.1] v65.2 0 0
      cases hf
      exact pm_lret C X dX16_real_160 rfl (Nat.le_refl _) (Nat.le_refl _) q
  have hf := pm_ie hf c59
  have nc1 := lv_neT c1 (by decide : (0 : Int32).toInt = 0)
  have nc4 := lv_neT c4 (by decide : (1 : Int32).toInt = 1)
  have nc7 := lv_neT c7 (by decide : (2 : Int32).toInt = 2)
  have nc11 := lv_neT c11 (by decide : (3 : Int32).toInt = 3)
  have nc15 := lv_neT c15 (by decide : (4 : Int32).toInt = 4)
  have nc19 := lv_neT c19 (by decide : (5 : Int32).toInt = 5)
  have nc23 := lv_neT c23 (by decide : (6 : Int32).toInt = 6)
  have nc27 := lv_neT c27 (by decide : (7 : Int32).toInt = 7)
  have nc35 := lv_neT c35 (by decide : (8 : Int32).toInt = 8)
  have nc43 := lv_neT c43 (by decide : (9 : Int32).toInt = 9)
  have nc47 := lv_neT c47 (by decide : (10 : Int32).toInt = 10)
  have nc51 := lv_neT c51 (by decide : (11 : Int32).toInt = 11)
  have nc59 := lv_neT c59 (by decide : (12 : Int32).toInt = 12)
  refine pm_tableOut (tgt := 161) C dX16_real_1 (by omega) (by decide) ?_
  refine pm_lload_n C dX16_real_161 rfl rfl ?_
  refine pm_iload_n C dX16_real_162 rfl rfl ?_
  obtain ⟨v67, e68, hf⟩ := pm_lt hf
  refine pm_callS (as := [.int p2]) (st := [.long p3]) C X dX16_real_163 lnX16_865 myX16_signOf stX16_signOf ⟨by decide, by decide⟩ rfl rfl (Nat.le_of_ble_eq_true rfl) (Nat.le_refl _) (Nat.le_refl _) (ctX16_signOf e68 ?_)
  show pm_G g 166 [(0, .ref a0), (1, .int p1), (2, .int p2), (3, .long p3), (5, .long p4)] [.long v67, .long p3] h 0 0
  refine pm_ldc2 C dX16_real_166 cnX16_268 ?_
  refine pm_lxor C dX16_real_169 ?_
  refine pm_land C dX16_real_170 ?_
  refine pm_lload C dX16_real_171 rfl ?_
  refine pm_iload_n C dX16_real_173 rfl rfl ?_
  obtain ⟨v69, e70, hf⟩ := pm_lt hf
  refine pm_callS (as := [.int p2]) (st := [.long p4, .long (p3 &&& (v67 ^^^ (-1)))]) C X dX16_real_174 lnX16_865 myX16_signOf stX16_signOf ⟨by decide, by decide⟩ rfl rfl (Nat.le_of_ble_eq_true rfl) (Nat.le_refl _) (Nat.le_refl _) (ctX16_signOf e70 ?_)
  show pm_G g 177 [(0, .ref a0), (1, .int p1), (2, .int p2), (3, .long p3), (5, .long p4)] [.long v69, .long p4, .long (p3 &&& (v67 ^^^ (-1)))] h 0 0
  refine pm_land C dX16_real_177 ?_
  refine pm_lor C dX16_real_178 ?_
  cases hf
  exact pm_lret C X dX16_real_179 rfl (Nat.le_refl _) (Nat.le_refl _) q
theorem dX16_reckons_0 : decode cX16_reckons 0 = .ok (.iload_n 1, 1) := by decide +kernel
theorem dX16_reckons_1 : decode cX16_reckons 1 = .ok (.invokestatic 753, 3) := by decide +kernel
theorem dX16_reckons_4 : decode cX16_reckons 4 = .ok (.istore 6, 2) := by decide +kernel
theorem dX16_reckons_6 : decode cX16_reckons 6 = .ok (.iload_n 1, 1) := by decide +kernel
theorem dX16_reckons_7 : decode cX16_reckons 7 = .ok (.bipush 69, 2) := by decide +kernel
theorem dX16_reckons_9 : decode cX16_reckons 9 = .ok (.if_icmp .eq 9, 3) := by decide +kernel
theorem dX16_reckons_12 : decode cX16_reckons 12 = .ok (.iload_n 1, 1) := by decide +kernel
theorem dX16_reckons_13 : decode cX16_reckons 13 = .ok (.bipush 80, 2) := by decide +kernel
theorem dX16_reckons_15 : decode cX16_reckons 15 = .ok (.if_icmp .ne 15, 3) := by decide +kernel
theorem dX16_reckons_18 : decode cX16_reckons 18 = .ok (.lload_n 2, 1) := by decide +kernel
theorem dX16_reckons_19 : decode cX16_reckons 19 = .ok (.lconst 0, 1) := by decide +kernel
theorem dX16_reckons_20 : decode cX16_reckons 20 = .ok (.lcmp, 1) := by decide +kernel
theorem dX16_reckons_21 : decode cX16_reckons 21 = .ok (.ifCond .ne 7, 3) := by decide +kernel
theorem dX16_reckons_24 : decode cX16_reckons 24 = .ok (.lconst 1, 1) := by decide +kernel
theorem dX16_reckons_25 : decode cX16_reckons 25 = .ok (.goto 4, 3) := by decide +kernel
theorem dX16_reckons_28 : decode cX16_reckons 28 = .ok (.lconst 0, 1) := by decide +kernel
theorem dX16_reckons_29 : decode cX16_reckons 29 = .ok (.lreturn, 1) := by decide +kernel
theorem dX16_reckons_30 : decode cX16_reckons 30 = .ok (.iload_n 1, 1) := by decide +kernel
theorem dX16_reckons_31 : decode cX16_reckons 31 = .ok (.bipush 91, 2) := by decide +kernel
theorem dX16_reckons_33 : decode cX16_reckons 33 = .ok (.if_icmp .ge 58, 3) := by decide +kernel
theorem dX16_reckons_36 : decode cX16_reckons 36 = .ok (.iload_n 1, 1) := by decide +kernel
theorem dX16_reckons_37 : decode cX16_reckons 37 = .ok (.iload 6, 2) := by decide +kernel
theorem dX16_reckons_39 : decode cX16_reckons 39 = .ok (.ifCond .ne 8, 3) := by decide +kernel
theorem dX16_reckons_42 : decode cX16_reckons 42 = .ok (.bipush 70, 2) := by decide +kernel
theorem dX16_reckons_44 : decode cX16_reckons 44 = .ok (.goto 5, 3) := by decide +kernel
theorem dX16_reckons_47 : decode cX16_reckons 47 = .ok (.bipush 81, 2) := by decide +kernel
theorem dX16_reckons_49 : decode cX16_reckons 49 = .ok (.isub, 1) := by decide +kernel
theorem dX16_reckons_50 : decode cX16_reckons 50 = .ok (.iload 6, 2) := by decide +kernel
theorem dX16_reckons_52 : decode cX16_reckons 52 = .ok (.ifCond .ne 9, 3) := by decide +kernel
theorem dX16_reckons_55 : decode cX16_reckons 55 = .ok (.lload_n 2, 1) := by decide +kernel
theorem dX16_reckons_56 : decode cX16_reckons 56 = .ok (.l2i, 1) := by decide +kernel
theorem dX16_reckons_57 : decode cX16_reckons 57 = .ok (.i2l, 1) := by decide +kernel
theorem dX16_reckons_58 : decode cX16_reckons 58 = .ok (.goto 4, 3) := by decide +kernel
theorem dX16_reckons_61 : decode cX16_reckons 61 = .ok (.lload_n 2, 1) := by decide +kernel
theorem dX16_reckons_62 : decode cX16_reckons 62 = .ok (.iload 6, 2) := by decide +kernel
theorem dX16_reckons_64 : decode cX16_reckons 64 = .ok (.ifCond .ne 10, 3) := by decide +kernel
theorem dX16_reckons_67 : decode cX16_reckons 67 = .ok (.lload 4, 2) := by decide +kernel
theorem dX16_reckons_69 : decode cX16_reckons 69 = .ok (.l2i, 1) := by decide +kernel
theorem dX16_reckons_70 : decode cX16_reckons 70 = .ok (.i2l, 1) := by decide +kernel
theorem dX16_reckons_71 : decode cX16_reckons 71 = .ok (.goto 5, 3) := by decide +kernel
theorem dX16_reckons_74 : decode cX16_reckons 74 = .ok (.lload 4, 2) := by decide +kernel
theorem dX16_reckons_76 : decode cX16_reckons 76 = .ok (.lload_n 2, 1) := by decide +kernel
theorem dX16_reckons_77 : decode cX16_reckons 77 = .ok (.lload 4, 2) := by decide +kernel
theorem dX16_reckons_79 : decode cX16_reckons 79 = .ok (.invokestatic 803, 3) := by decide +kernel
theorem dX16_reckons_82 : decode cX16_reckons 82 = .ok (.ifCond .eq 7, 3) := by decide +kernel
theorem dX16_reckons_85 : decode cX16_reckons 85 = .ok (.lconst 1, 1) := by decide +kernel
theorem dX16_reckons_86 : decode cX16_reckons 86 = .ok (.goto 4, 3) := by decide +kernel
theorem dX16_reckons_89 : decode cX16_reckons 89 = .ok (.lconst 0, 1) := by decide +kernel
theorem dX16_reckons_90 : decode cX16_reckons 90 = .ok (.lreturn, 1) := by decide +kernel
theorem dX16_reckons_91 : decode cX16_reckons 91 = .ok (.iload_n 1, 1) := by decide +kernel
theorem dX16_reckons_92 : decode cX16_reckons 92 = .ok (.bipush 103, 2) := by decide +kernel
theorem dX16_reckons_94 : decode cX16_reckons 94 = .ok (.if_icmp .ge 36, 3) := by decide +kernel
theorem dX16_reckons_97 : decode cX16_reckons 97 = .ok (.aload_n 0, 1) := by decide +kernel
theorem dX16_reckons_98 : decode cX16_reckons 98 = .ok (.iload_n 1, 1) := by decide +kernel
theorem dX16_reckons_99 : decode cX16_reckons 99 = .ok (.iload 6, 2) := by decide +kernel
theorem dX16_reckons_101 : decode cX16_reckons 101 = .ok (.iconst 2, 1) := by decide +kernel
theorem dX16_reckons_102 : decode cX16_reckons 102 = .ok (.if_icmp .ne 8, 3) := by decide +kernel
theorem dX16_reckons_105 : decode cX16_reckons 105 = .ok (.bipush 91, 2) := by decide +kernel
theorem dX16_reckons_107 : decode cX16_reckons 107 = .ok (.goto 5, 3) := by decide +kernel
theorem dX16_reckons_110 : decode cX16_reckons 110 = .ok (.bipush 97, 2) := by decide +kernel
theorem dX16_reckons_112 : decode cX16_reckons 112 = .ok (.isub, 1) := by decide +kernel
theorem dX16_reckons_113 : decode cX16_reckons 113 = .ok (.iload 6, 2) := by decide +kernel
theorem dX16_reckons_115 : decode cX16_reckons 115 = .ok (.lload_n 2, 1) := by decide +kernel
theorem dX16_reckons_116 : decode cX16_reckons 116 = .ok (.lload 4, 2) := by decide +kernel
theorem dX16_reckons_118 : decode cX16_reckons 118 = .ok (.invokevirtual 807, 3) := by decide +kernel
theorem dX16_reckons_121 : decode cX16_reckons 121 = .ok (.ifCond .eq 7, 3) := by decide +kernel
theorem dX16_reckons_124 : decode cX16_reckons 124 = .ok (.lconst 1, 1) := by decide +kernel
theorem dX16_reckons_125 : decode cX16_reckons 125 = .ok (.goto 4, 3) := by decide +kernel
theorem dX16_reckons_128 : decode cX16_reckons 128 = .ok (.lconst 0, 1) := by decide +kernel
theorem dX16_reckons_129 : decode cX16_reckons 129 = .ok (.lreturn, 1) := by decide +kernel
theorem dX16_reckons_130 : decode cX16_reckons 130 = .ok (.iload_n 1, 1) := by decide +kernel
theorem dX16_reckons_131 : decode cX16_reckons 131 = .ok (.sipush 139, 3) := by decide +kernel
theorem dX16_reckons_134 : decode cX16_reckons 134 = .ok (.if_icmp .ge 45, 3) := by decide +kernel
theorem dX16_reckons_137 : decode cX16_reckons 137 = .ok (.iload 6, 2) := by decide +kernel
theorem dX16_reckons_139 : decode cX16_reckons 139 = .ok (.ifCond .ne 28, 3) := by decide +kernel
theorem dX16_reckons_142 : decode cX16_reckons 142 = .ok (.aload_n 0, 1) := by decide +kernel
theorem dX16_reckons_143 : decode cX16_reckons 143 = .ok (.iload_n 1, 1) := by decide +kernel
theorem dX16_reckons_144 : decode cX16_reckons 144 = .ok (.bipush 103, 2) := by decide +kernel
theorem dX16_reckons_146 : decode cX16_reckons 146 = .ok (.isub, 1) := by decide +kernel
theorem dX16_reckons_147 : decode cX16_reckons 147 = .ok (.lload_n 2, 1) := by decide +kernel
theorem dX16_reckons_148 : decode cX16_reckons 148 = .ok (.l2i, 1) := by decide +kernel
theorem dX16_reckons_149 : decode cX16_reckons 149 = .ok (.i2l, 1) := by decide +kernel
theorem dX16_reckons_150 : decode cX16_reckons 150 = .ok (.lload_n 2, 1) := by decide +kernel
theorem dX16_reckons_151 : decode cX16_reckons 151 = .ok (.lload 4, 2) := by decide +kernel
theorem dX16_reckons_153 : decode cX16_reckons 153 = .ok (.l2i, 1) := by decide +kernel
theorem dX16_reckons_154 : decode cX16_reckons 154 = .ok (.i2l, 1) := by decide +kernel
theorem dX16_reckons_155 : decode cX16_reckons 155 = .ok (.lload 4, 2) := by decide +kernel
theorem dX16_reckons_157 : decode cX16_reckons 157 = .ok (.invokevirtual 811, 3) := by decide +kernel
theorem dX16_reckons_160 : decode cX16_reckons 160 = .ok (.ldc2_w 513, 3) := by decide +kernel
theorem dX16_reckons_163 : decode cX16_reckons 163 = .ok (.land, 1) := by decide +kernel
theorem dX16_reckons_164 : decode cX16_reckons 164 = .ok (.goto 14, 3) := by decide +kernel
theorem dX16_reckons_167 : decode cX16_reckons 167 = .ok (.aload_n 0, 1) := by decide +kernel
theorem dX16_reckons_168 : decode cX16_reckons 168 = .ok (.iload_n 1, 1) := by decide +kernel
theorem dX16_reckons_169 : decode cX16_reckons 169 = .ok (.bipush 121, 2) := by decide +kernel
theorem dX16_reckons_171 : decode cX16_reckons 171 = .ok (.isub, 1) := by decide +kernel
theorem dX16_reckons_172 : decode cX16_reckons 172 = .ok (.lload_n 2, 1) := by decide +kernel
theorem dX16_reckons_173 : decode cX16_reckons 173 = .ok (.lload 4, 2) := by decide +kernel
theorem dX16_reckons_175 : decode cX16_reckons 175 = .ok (.invokevirtual 815, 3) := by decide +kernel
theorem dX16_reckons_178 : decode cX16_reckons 178 = .ok (.lreturn, 1) := by decide +kernel
theorem dX16_reckons_179 : decode cX16_reckons 179 = .ok (.iload_n 1, 1) := by decide +kernel
theorem dX16_reckons_180 : decode cX16_reckons 180 = .ok (.sipush 167, 3) := by decide +kernel
theorem dX16_reckons_183 : decode cX16_reckons 183 = .ok (.if_icmp .ge 30, 3) := by decide +kernel
theorem dX16_reckons_186 : decode cX16_reckons 186 = .ok (.aload_n 0, 1) := by decide +kernel
theorem dX16_reckons_187 : decode cX16_reckons 187 = .ok (.iload_n 1, 1) := by decide +kernel
theorem dX16_reckons_188 : decode cX16_reckons 188 = .ok (.iload 6, 2) := by decide +kernel
theorem dX16_reckons_190 : decode cX16_reckons 190 = .ok (.iconst 2, 1) := by decide +kernel
theorem dX16_reckons_191 : decode cX16_reckons 191 = .ok (.if_icmp .ne 9, 3) := by decide +kernel
theorem dX16_reckons_194 : decode cX16_reckons 194 = .ok (.sipush 139, 3) := by decide +kernel
theorem dX16_reckons_197 : decode cX16_reckons 197 = .ok (.goto 6, 3) := by decide +kernel
theorem dX16_reckons_200 : decode cX16_reckons 200 = .ok (.sipush 153, 3) := by decide +kernel
theorem dX16_reckons_203 : decode cX16_reckons 203 = .ok (.isub, 1) := by decide +kernel
theorem dX16_reckons_204 : decode cX16_reckons 204 = .ok (.iload 6, 2) := by decide +kernel
theorem dX16_reckons_206 : decode cX16_reckons 206 = .ok (.lload_n 2, 1) := by decide +kernel
theorem dX16_reckons_207 : decode cX16_reckons 207 = .ok (.lload 4, 2) := by decide +kernel
theorem dX16_reckons_209 : decode cX16_reckons 209 = .ok (.invokevirtual 819, 3) := by decide +kernel
theorem dX16_reckons_212 : decode cX16_reckons 212 = .ok (.lreturn, 1) := by decide +kernel
theorem dX16_reckons_213 : decode cX16_reckons 213 = .ok (.aload_n 0, 1) := by decide +kernel
theorem dX16_reckons_214 : decode cX16_reckons 214 = .ok (.iload_n 1, 1) := by decide +kernel
theorem dX16_reckons_215 : decode cX16_reckons 215 = .ok (.iload 6, 2) := by decide +kernel
theorem dX16_reckons_217 : decode cX16_reckons 217 = .ok (.lload_n 2, 1) := by decide +kernel
theorem dX16_reckons_218 : decode cX16_reckons 218 = .ok (.invokevirtual 823, 3) := by decide +kernel
theorem dX16_reckons_221 : decode cX16_reckons 221 = .ok (.lreturn, 1) := by decide +kernel
noncomputable def fX16_reckons_b49 (h : pm_H) (x2 : Int64) (x4 : Int64) (x6 : Int32) (s0 : Int32) (s1 : Int32) : Option (Int64 × pm_H) := if x6 = 0 then (if x6 = 0 then ((fX16_isWhole (s1 - s0) x2.toInt32.toInt64 x4.toInt32.toInt64 x2 x4).bind fun v50 => if v50 = 0 then (some ((0, h))) else (some ((1, h)))) else ((fX16_isWhole (s1 - s0) x2.toInt32.toInt64 x4 x2 x4).bind fun v47 => if v47 = 0 then (some ((0, h))) else (some ((1, h))))) else (if x6 = 0 then ((fX16_isWhole (s1 - s0) x2 x4.toInt32.toInt64 x2 x4).bind fun v43 => if v43 = 0 then (some ((0, h))) else (some ((1, h)))) else ((fX16_isWhole (s1 - s0) x2 x4 x2 x4).bind fun v40 => if v40 = 0 then (some ((0, h))) else (some ((1, h)))))
noncomputable def fX16_reckons (h : pm_H) (a0 : Nat) (p1 : Int32) (p2 : Int64) (p3 : Int64) : Option (Int64 × pm_H) := pm_let (fX16_operandOf p1) fun v1 => if p1 = 69 then (if p2 = 0 then (some ((1, h))) else (some ((0, h)))) else (if p1 = 80 then (if p2 = 0 then (some ((1, h))) else (some ((0, h)))) else (if 91 ≤ p1 then (if 103 ≤ p1 then (if 139 ≤ p1 then (if 167 ≤ p1 then (if pm_kd h a0 = 16 then (fX16_turned h a0 p1 v1 p2).bind fun v11 => some ((v11.1, v11.2)) else none) else (if v1 = 2 then (if pm_kd h a0 = 16 then (fX16_real h a0 (p1 - 139) v1 p2 p3).bind fun v18 => some ((v18.1, v18.2)) else none) else (if pm_kd h a0 = 16 then (fX16_real h a0 (p1 - 153) v1 p2 p3).bind fun v15 => some ((v15.1, v15.2)) else none))) else (if v1 = 0 then (if pm_kd h a0 = 16 then (fX16_short32 h a0 (p1 - 103) p2.toInt32.toInt64 p2 p3.toInt32.toInt64 p3).bind fun v25 => some ((v25.1 &&& 4294967295, v25.2)) else none) else (if pm_kd h a0 = 16 then (fX16_long64 h a0 (p1 - 121) p2 p3).bind fun v22 => some ((v22.1, v22.2)) else none))) else (if v1 = 2 then (if pm_kd h a0 = 16 then (fX16_isReal h a0 (p1 - 91) v1 p2 p3).bind fun v33 => if v33.1 = 0 then (some ((0, v33.2))) else (some ((1, v33.2))) else none) else (if pm_kd h a0 = 16 then (fX16_isReal h a0 (p1 - 97) v1 p2 p3).bind fun v29 => if v29.1 = 0 then (some ((0, v29.2))) else (some ((1, v29.2))) else none))) else (if v1 = 0 then (fX16_reckons_b49 h p2 p3 v1 70 p1) else (fX16_reckons_b49 h p2 p3 v1 81 p1))))
set_option maxHeartbeats 4000000 in
set_option maxRecDepth 100000 in
theorem bX16_reckons_49 {g : pm_Gm} {l : Launch} {G : pm_Gl} {Qr : Option Value → pm_H → Prop} (C : pm_C g cX16_reckons RX16) (X : pm_X g l G mX16_reckons 0 0 Qr) {h : pm_H} {x2 : Int64} {x4 : Int64} {x6 : Int32} {s0 : Int32} {s1 : Int32} {r : (Int64 × pm_H)} (hf : fX16_reckons_b49 h x2 x4 x6 s0 s1 = some r) (q : Qr (some (.long r.1)) r.2) : pm_G g 49 [(2, .long x2), (4, .long x4), (6, .int x6)] [.int s0, .int s1] h 0 0 := by
  unfold fX16_reckons_b49 at hf
  refine pm_isub C dX16_reckons_49 ?_
  refine pm_iload C dX16_reckons_50 rfl ?_
  refine pm_if_ne (tgt := 61) C dX16_reckons_52 (by decide) (fun c38 => ?_) (fun c38 => ?_)
  · have hf := pm_ie hf c38
    refine pm_lload_n C dX16_reckons_61 rfl rfl ?_
    refine pm_iload C dX16_reckons_62 rfl ?_
    refine pm_if_ne (tgt := 74) C dX16_reckons_64 (by decide) (fun c39 => ?_) (fun c39 => ?_)
    · have hf := pm_ie hf c39
      refine pm_lload C dX16_reckons_74 rfl ?_
      refine pm_lload_n C dX16_reckons_76 rfl rfl ?_
      refine pm_lload C dX16_reckons_77 rfl ?_
      obtain ⟨v40, e41, hf⟩ := pm_bd hf
      refine pm_callS (as := [.int (s1 - s0), .long x2, .long x4, .long x2, .long x4]) (st := []) C X dX16_reckons_79 lnX16_803 myX16_isWhole stX16_isWhole ⟨by decide, by decide⟩ rfl rfl (Nat.le_of_ble_eq_true rfl) (Nat.le_refl _) (Nat.le_refl _) (ctX16_isWhole e41 ?_)
      show pm_G g 82 [(2, .long x2), (4, .long x4), (6, .int x6)] [.int v40] h 0 0
      refine pm_if_eq (tgt := 89) C dX16_reckons_82 (by decide) (fun c42 => ?_) (fun c42 => ?_)
      · have hf := pm_it hf c42
        refine pm_lconst (v := 0) C dX16_reckons_89 (by decide) ?_
        cases hf
        exact pm_lret C X dX16_reckons_90 rfl (Nat.le_refl _) (Nat.le_refl _) q
      · have hf := pm_ie hf c42
        refine pm_lconst (v := 1) C dX16_reckons_85 (by decide) ?_
        refine pm_goto (tgt := 90) C dX16_reckons_86 (by decide) ?_
        cases hf
        exact pm_lret C X dX16_reckons_90 rfl (Nat.le_refl _) (Nat.le_refl _) q
    · have hf := pm_it hf c39
      refine pm_lload C dX16_reckons_67 rfl ?_
      refine pm_l2i C dX16_reckons_69 ?_
      refine pm_i2l C dX16_reckons_70 ?_
      refine pm_goto (tgt := 76) C dX16_reckons_71 (by decide) ?_
      refine pm_lload_n C dX16_reckons_76 rfl rfl ?_
      refine pm_lload C dX16_reckons_77 rfl ?_
      obtain ⟨v43, e44, hf⟩ := pm_bd hf
      refine pm_callS (as := [.int (s1 - s0), .long x2, .long x4.toInt32.toInt64, .long x2, .long x4]) (st := []) C X dX16_reckons_79 lnX16_803 myX16_isWhole stX16_isWhole ⟨by decide, by decide⟩ rfl rfl (Nat.le_of_ble_eq_true rfl) (Nat.le_refl _) (Nat.le_refl _) (ctX16_isWhole e44 ?_)
      show pm_G g 82 [(2, .long x2), (4, .long x4), (6, .int x6)] [.int v43] h 0 0
      refine pm_if_eq (tgt := 89) C dX16_reckons_82 (by decide) (fun c45 => ?_) (fun c45 => ?_)
      · have hf := pm_it hf c45
        refine pm_lconst (v := 0) C dX16_reckons_89 (by decide) ?_
        cases hf
        exact pm_lret C X dX16_reckons_90 rfl (Nat.le_refl _) (Nat.le_refl _) q
      · have hf := pm_ie hf c45
        refine pm_lconst (v := 1) C dX16_reckons_85 (by decide) ?_
        refine pm_goto (tgt := 90) C dX16_reckons_86 (by decide) ?_
        cases hf
        exact pm_lret C X dX16_reckons_90 rfl (Nat.le_refl _) (Nat.le_refl _) q
  · have hf := pm_it hf c38
    refine pm_lload_n C dX16_reckons_55 rfl rfl ?_
    refine pm_l2i C dX16_reckons_56 ?_
    refine pm_i2l C dX16_reckons_57 ?_
    refine pm_goto (tgt := 62) C dX16_reckons_58 (by decide) ?_
    refine pm_iload C dX16_reckons_62 rfl ?_
    refine pm_if_ne (tgt := 74) C dX16_reckons_64 (by decide) (fun c46 => ?_) (fun c46 => ?_)
    · have hf := pm_ie hf c46
      refine pm_lload C dX16_reckons_74 rfl ?_
      refine pm_lload_n C dX16_reckons_76 rfl rfl ?_
      refine pm_lload C dX16_reckons_77 rfl ?_
      obtain ⟨v47, e48, hf⟩ := pm_bd hf
      refine pm_callS (as := [.int (s1 - s0), .long x2.toInt32.toInt64, .long x4, .long x2, .long x4]) (st := []) C X dX16_reckons_79 lnX16_803 myX16_isWhole stX16_isWhole ⟨by decide, by decide⟩ rfl rfl (Nat.le_of_ble_eq_true rfl) (Nat.le_refl _) (Nat.le_refl _) (ctX16_isWhole e48 ?_)
      show pm_G g 82 [(2, .long x2), (4, .long x4), (6, .int x6)] [.int v47] h 0 0
      refine pm_if_eq (tgt := 89) C dX16_reckons_82 (by decide) (fun c49 => ?_) (fun c49 => ?_)
      · have hf := pm_it hf c49
        refine pm_lconst (v := 0) C dX16_reckons_89 (by decide) ?_
        cases hf
        exact pm_lret C X dX16_reckons_90 rfl (Nat.le_refl _) (Nat.le_refl _) q
      · have hf := pm_ie hf c49
        refine pm_lconst (v := 1) C dX16_reckons_85 (by decide) ?_
        refine pm_goto (tgt := 90) C dX16_reckons_86 (by decide) ?_
        cases hf
        exact pm_lret C X dX16_reckons_90 rfl (Nat.le_refl _) (Nat.le_refl _) q
    · have hf := pm_it hf c46
      refine pm_lload C dX16_reckons_67 rfl ?_
      refine pm_l2i C dX16_reckons_69 ?_
      refine pm_i2l C dX16_reckons_70 ?_
      refine pm_goto (tgt := 76) C dX16_reckons_71 (by decide) ?_
      refine pm_lload_n C dX16_reckons_76 rfl rfl ?_
      refine pm_lload C dX16_reckons_77 rfl ?_
      obtain ⟨v50, e51, hf⟩ := pm_bd hf
      refine pm_callS (as := [.int (s1 - s0), .long x2.toInt32.toInt64, .long x4.toInt32.toInt64, .long x2, .long x4]) (st := []) C X dX16_reckons_79 lnX16_803 myX16_isWhole stX16_isWhole ⟨by decide, by decide⟩ rfl rfl (Nat.le_of_ble_eq_true rfl) (Nat.le_refl _) (Nat.le_refl _) (ctX16_isWhole e51 ?_)
      show pm_G g 82 [(2, .long x2), (4, .long x4), (6, .int x6)] [.int v50] h 0 0
      refine pm_if_eq (tgt := 89) C dX16_reckons_82 (by decide) (fun c52 => ?_) (fun c52 => ?_)
      · have hf := pm_it hf c52
        refine pm_lconst (v := 0) C dX16_reckons_89 (by decide) ?_
        cases hf
        exact pm_lret C X dX16_reckons_90 rfl (Nat.le_refl _) (Nat.le_refl _) q
      · have hf := pm_ie hf c52
        refine pm_lconst (v := 1) C dX16_reckons_85 (by decide) ?_
        refine pm_goto (tgt := 90) C dX16_reckons_86 (by decide) ?_
        cases hf
        exact pm_lret C X dX16_reckons_90 rfl (Nat.le_refl _) (Nat.le_refl _) q
set_option maxHeartbeats 4000000 in
set_option maxRecDepth 100000 in
theorem ctX16_reckons {l : Launch} {G : pm_Gl} {h : pm_H} {a0 : Nat} {p1 : Int32} {p2 : Int64} {p3 : Int64} {r : (Int64 × pm_H)} {Qr : Option Value → pm_H → Prop} (hf : fX16_reckons h a0 p1 p2 p3 = some r) (q : Qr (some (.long r.1)) r.2) : pm_Ct l G mX16_reckons [.ref a0, .int p1, .long p2, .long p3] h 0 0 Qr := by
  refine pm_body pnX16 (Nat.le_of_ble_eq_true rfl) (fun g C X => ?_)
  have C : pm_C g cX16_reckons RX16 := C
  show pm_G g 0 [(0, .ref a0), (1, .int p1), (2, .long p2), (4, .long p3)] [] h 0 0
  unfold fX16_reckons at hf
  refine pm_iload_n C dX16_reckons_0 rfl rfl ?_
  obtain ⟨v1, e2, hf⟩ := pm_lt hf
  refine pm_callS (as := [.int p1]) (st := []) C X dX16_reckons_1 lnX16_753 myX16_operandOf stX16_operandOf ⟨by decide, by decide⟩ rfl rfl (Nat.le_of_ble_eq_true rfl) (Nat.le_refl _) (Nat.le_refl _) (ctX16_operandOf e2 ?_)
  show pm_G g 4 [(0, .ref a0), (1, .int p1), (2, .long p2), (4, .long p3)] [.int v1] h 0 0
  refine pm_istore (lv' := [(6, .int v1), (0, .ref a0), (1, .int p1), (2, .long p2), (4, .long p3)]) C dX16_reckons_4 (pm_nl X (by decide)) rfl ?_
  refine pm_iload_n C dX16_reckons_6 rfl rfl ?_
  refine pm_bipush (v := 69) C dX16_reckons_7 (by decide) ?_
  refine pm_icmp_eq (tgt := 18) C dX16_reckons_9 (by decide) (fun c3 => ?_) (fun c3 => ?_)
  · have hf := pm_it hf c3
    refine pm_lload_n C dX16_reckons_18 rfl rfl ?_
    refine pm_lconst (v := 0) C dX16_reckons_19 (by decide) ?_
    refine pm_lcmp C dX16_reckons_20 ?_
    refine pm_if_ne (tgt := 28) C dX16_reckons_21 (by decide) (fun c4 => ?_) (fun c4 => ?_)
    · have hf := pm_ie hf ((fun z => c4 ((pm_lg_eq _ _).mpr z)))
      refine pm_lconst (v := 0) C dX16_reckons_28 (by decide) ?_
      cases hf
      exact pm_lret C X dX16_reckons_29 rfl (Nat.le_refl _) (Nat.le_refl _) q
    · have hf := pm_it hf ((pm_lg_eq _ _).mp c4)
      refine pm_lconst (v := 1) C dX16_reckons_24 (by decide) ?_
      refine pm_goto (tgt := 29) C dX16_reckons_25 (by decide) ?_
      cases hf
      exact pm_lret C X dX16_reckons_29 rfl (Nat.le_refl _) (Nat.le_refl _) q
  · have hf := pm_ie hf c3
    refine pm_iload_n C dX16_reckons_12 rfl rfl ?_
    refine pm_bipush (v := 80) C dX16_reckons_13 (by decide) ?_
    refine pm_icmp_ne (tgt := 30) C dX16_reckons_15 (by decide) (fun c5 => ?_) (fun c5 => ?_)
    · have hf := pm_ie hf c5
      refine pm_iload_n C dX16_reckons_30 rfl rfl ?_
      refine pm_bipush (v := 91) C dX16_reckons_31 (by decide) ?_
      refine pm_icmp_ge (tgt := 91) C dX16_reckons_33 (by decide) (fun c6 => ?_) (fun c6 => ?_)
      · have hf := pm_it hf c6
        refine pm_iload_n C dX16_reckons_91 rfl rfl ?_
        refine pm_bipush (v := 103) C dX16_reckons_92 (by decide) ?_
        refine pm_icmp_ge (tgt := 130) C dX16_reckons_94 (by decide) (fun c7 => ?_) (fun c7 => ?_)
        · have hf := pm_it hf c7
          refine pm_iload_n C dX16_reckons_130 rfl rfl ?_
          refine pm_sipush (v := 139) C dX16_reckons_131 (by decide) ?_
          refine pm_icmp_ge (tgt := 179) C dX16_reckons_134 (by decide) (fun c8 => ?_) (fun c8 => ?_)
          · have hf := pm_it hf c8
            refine pm_iload_n C dX16_reckons_179 rfl rfl ?_
            refine pm_sipush (v := 167) C dX16_reckons_180 (by decide) ?_
            refine pm_icmp_ge (tgt := 213) C dX16_reckons_183 (by decide) (fun c9 => ?_) (fun c9 => ?_)
            · have hf := pm_it hf c9
              refine pm_aload_n C dX16_reckons_213 rfl rfl ?_
              refine pm_iload_n C dX16_reckons_214 rfl rfl ?_
              refine pm_iload C dX16_reckons_215 rfl ?_
              refine pm_lload_n C dX16_reckons_217 rfl rfl ?_
              obtain ⟨k10, hf⟩ := pm_if hf
              obtain ⟨v11, e12, hf⟩ := pm_bd hf
              refine pm_callV (as := [.int p1, .int v1, .long p2]) (st := []) C X dX16_reckons_218 lnX16_823 myX16_turned viX16_turned ⟨by decide, by decide⟩ rfl rfl k10 (Nat.le_of_ble_eq_true rfl) (Nat.le_refl _) (Nat.le_refl _) (ctX16_turned e12 ?_)
              show pm_G g 221 [(6, .int v1), (0, .ref a0), (1, .int p1), (2, .long p2), (4, .long p3)] [.long v11.1] v11.2 0 0
              cases hf
              exact pm_lret C X dX16_reckons_221 rfl (Nat.le_refl _) (Nat.le_refl _) q
            · have hf := pm_ie hf c9
              refine pm_aload_n C dX16_reckons_186 rfl rfl ?_
              refine pm_iload_n C dX16_reckons_187 rfl rfl ?_
              refine pm_iload C dX16_reckons_188 rfl ?_
              refine pm_iconst (v := 2) C dX16_reckons_190 (by decide) ?_
              refine pm_icmp_ne (tgt := 200) C dX16_reckons_191 (by decide) (fun c13 => ?_) (fun c13 => ?_)
              · have hf := pm_ie hf c13
                refine pm_sipush (v := 153) C dX16_reckons_200 (by decide) ?_
                refine pm_isub C dX16_reckons_203 ?_
                refine pm_iload C dX16_reckons_204 rfl ?_
                refine pm_lload_n C dX16_reckons_206 rfl rfl ?_
                refine pm_lload C dX16_reckons_207 rfl ?_
                obtain ⟨k14, hf⟩ := pm_if hf
                obtain ⟨v15, e16, hf⟩ := pm_bd hf
                refine pm_callV (as := [.int (p1 - 153), .int v1, .long p2, .long p3]) (st := []) C X dX16_reckons_209 lnX16_819 myX16_real viX16_real ⟨by decide, by decide⟩ rfl rfl k14 (Nat.le_of_ble_eq_true rfl) (Nat.le_refl _) (Nat.le_refl _) (ctX16_real e16 ?_)
                show pm_G g 212 [(6, .int v1), (0, .ref a0), (1, .int p1), (2, .long p2), (4, .long p3)] [.long v15.1] v15.2 0 0
                cases hf
                exact pm_lret C X dX16_reckons_212 rfl (Nat.le_refl _) (Nat.le_refl _) q
              · have hf := pm_it hf c13
                refine pm_sipush (v := 139) C dX16_reckons_194 (by decide) ?_
                refine pm_goto (tgt := 203) C dX16_reckons_197 (by decide) ?_
                refine pm_isub C dX16_reckons_203 ?_
                refine pm_iload C dX16_reckons_204 rfl ?_
                refine pm_lload_n C dX16_reckons_206 rfl rfl ?_
                refine pm_lload C dX16_reckons_207 rfl ?_
                obtain ⟨k17, hf⟩ := pm_if hf
                obtain ⟨v18, e19, hf⟩ := pm_bd hf
                refine pm_callV (as := [.int (p1 - 139), .int v1, .long p2, .long p3]) (st := []) C X dX16_reckons_209 lnX16_819 myX16_real viX16_real ⟨by decide, by decide⟩ rfl rfl k17 (Nat.le_of_ble_eq_true rfl) (Nat.le_refl _) (Nat.le_refl _) (ctX16_real e19 ?_)
                show pm_G g 212 [(6, .int v1), (0, .ref a0), (1, .int p1), (2, .long p2), (4, .long p3)] [.long v18.1] v18.2 0 0
                cases hf
                exact pm_lret C X dX16_reckons_212 rfl (Nat.le_refl _) (Nat.le_refl _) q
          · have hf := pm_ie hf c8
            refine pm_iload C dX16_reckons_137 rfl ?_
            refine pm_if_ne (tgt := 167) C dX16_reckons_139 (by decide) (fun c20 => ?_) (fun c20 => ?_)
            · have hf := pm_ie hf c20
              refine pm_aload_n C dX16_reckons_167 rfl rfl ?_
              refine pm_iload_n C dX16_reckons_168 rfl rfl ?_
              refine pm_bipush (v := 121) C dX16_reckons_169 (by decide) ?_
              refine pm_isub C dX16_reckons_171 ?_
              refine pm_lload_n C dX16_reckons_172 rfl rfl ?_
              refine pm_lload C dX16_reckons_173 rfl ?_
              obtain ⟨k21, hf⟩ := pm_if hf
              obtain ⟨v22, e23, hf⟩ := pm_bd hf
              refine pm_callV (as := [.int (p1 - 121), .long p2, .long p3]) (st := []) C X dX16_reckons_175 lnX16_815 myX16_long64 viX16_long64 ⟨by decide, by decide⟩ rfl rfl k21 (Nat.le_of_ble_eq_true rfl) (Nat.le_refl _) (Nat.le_refl _) (ctX16_long64 e23 ?_)
              show pm_G g 178 [(6, .int v1), (0, .ref a0), (1, .int p1), (2, .long p2), (4, .long p3)] [.long v22.1] v22.2 0 0
              cases hf
              exact pm_lret C X dX16_reckons_178 rfl (Nat.le_refl _) (Nat.le_refl _) q
            · have hf := pm_it hf c20
              refine pm_aload_n C dX16_reckons_142 rfl rfl ?_
              refine pm_iload_n C dX16_reckons_143 rfl rfl ?_
              refine pm_bipush (v := 103) C dX16_reckons_144 (by decide) ?_
              refine pm_isub C dX16_reckons_146 ?_
              refine pm_lload_n C dX16_reckons_147 rfl rfl ?_
              refine pm_l2i C dX16_reckons_148 ?_
              refine pm_i2l C dX16_reckons_149 ?_
              refine pm_lload_n C dX16_reckons_150 rfl rfl ?_
              refine pm_lload C dX16_reckons_151 rfl ?_
              refine pm_l2i C dX16_reckons_153 ?_
              refine pm_i2l C dX16_reckons_154 ?_
              refine pm_lload C dX16_reckons_155 rfl ?_
              obtain ⟨k24, hf⟩ := pm_if hf
              obtain ⟨v25, e26, hf⟩ := pm_bd hf
              refine pm_callV (as := [.int (p1 - 103), .long p2.toInt32.toInt64, .long p2, .long p3.toInt32.toInt64, .long p3]) (st := []) C X dX16_reckons_157 lnX16_811 myX16_short32 viX16_short32 ⟨by decide, by decide⟩ rfl rfl k24 (Nat.le_of_ble_eq_true rfl) (Nat.le_refl _) (Nat.le_refl _) (ctX16_short32 e26 ?_)
              show pm_G g 160 [(6, .int v1), (0, .ref a0), (1, .int p1), (2, .long p2), (4, .long p3)] [.long v25.1] v25.2 0 0
              refine pm_ldc2 C dX16_reckons_160 cnX16_513 ?_
              refine pm_land C dX16_reckons_163 ?_
              refine pm_goto (tgt := 178) C dX16_reckons_164 (by decide) ?_
              cases hf
              exact pm_lret C X dX16_reckons_178 rfl (Nat.le_refl _) (Nat.le_refl _) q
        · have hf := pm_ie hf c7
          refine pm_aload_n C dX16_reckons_97 rfl rfl ?_
          refine pm_iload_n C dX16_reckons_98 rfl rfl ?_
          refine pm_iload C dX16_reckons_99 rfl ?_
          refine pm_iconst (v := 2) C dX16_reckons_101 (by decide) ?_
          refine pm_icmp_ne (tgt := 110) C dX16_reckons_102 (by decide) (fun c27 => ?_) (fun c27 => ?_)
          · have hf := pm_ie hf c27
            refine pm_bipush (v := 97) C dX16_reckons_110 (by decide) ?_
            refine pm_isub C dX16_reckons_112 ?_
            refine pm_iload C dX16_reckons_113 rfl ?_
            refine pm_lload_n C dX16_reckons_115 rfl rfl ?_
            refine pm_lload C dX16_reckons_116 rfl ?_
            obtain ⟨k28, hf⟩ := pm_if hf
            obtain ⟨v29, e30, hf⟩ := pm_bd hf
            refine pm_callV (as := [.int (p1 - 97), .int v1, .long p2, .long p3]) (st := []) C X dX16_reckons_118 lnX16_807 myX16_isReal viX16_isReal ⟨by decide, by decide⟩ rfl rfl k28 (Nat.le_of_ble_eq_true rfl) (Nat.le_refl _) (Nat.le_refl _) (ctX16_isReal e30 ?_)
            show pm_G g 121 [(6, .int v1), (0, .ref a0), (1, .int p1), (2, .long p2), (4, .long p3)] [.int v29.1] v29.2 0 0
            refine pm_if_eq (tgt := 128) C dX16_reckons_121 (by decide) (fun c31 => ?_) (fun c31 => ?_)
            · have hf := pm_it hf c31
              refine pm_lconst (v := 0) C dX16_reckons_128 (by decide) ?_
              cases hf
              exact pm_lret C X dX16_reckons_129 rfl (Nat.le_refl _) (Nat.le_refl _) q
            · have hf := pm_ie hf c31
              refine pm_lconst (v := 1) C dX16_reckons_124 (by decide) ?_
              refine pm_goto (tgt := 129) C dX16_reckons_125 (by decide) ?_
              cases hf
              exact pm_lret C X dX16_reckons_129 rfl (Nat.le_refl _) (Nat.le_refl _) q
          · have hf := pm_it hf c27
            refine pm_bipush (v := 91) C dX16_reckons_105 (by decide) ?_
            refine pm_goto (tgt := 112) C dX16_reckons_107 (by decide) ?_
            refine pm_isub C dX16_reckons_112 ?_
            refine pm_iload C dX16_reckons_113 rfl ?_
            refine pm_lload_n C dX16_reckons_115 rfl rfl ?_
            refine pm_lload C dX16_reckons_116 rfl ?_
            obtain ⟨k32, hf⟩ := pm_if hf
            obtain ⟨v33, e34, hf⟩ := pm_bd hf
            refine pm_callV (as := [.int (p1 - 91), .int v1, .long p2, .long p3]) (st := []) C X dX16_reckons_118 lnX16_807 myX16_isReal viX16_isReal ⟨by decide, by decide⟩ rfl rfl k32 (Nat.le_of_ble_eq_true rfl) (Nat.le_refl _) (Nat.le_refl _) (ctX16_isReal e34 ?_)
            show pm_G g 121 [(6, .int v1), (0, .ref a0), (1, .int p1), (2, .long p2), (4, .long p3)] [.int v33.1] v33.2 0 0
            refine pm_if_eq (tgt := 128) C dX16_reckons_121 (by decide) (fun c35 => ?_) (fun c35 => ?_)
            · have hf := pm_it hf c35
              refine pm_lconst (v := 0) C dX16_reckons_128 (by decide) ?_
              cases hf
              exact pm_lret C X dX16_reckons_129 rfl (Nat.le_refl _) (Nat.le_refl _) q
            · have hf := pm_ie hf c35
              refine pm_lconst (v := 1) C dX16_reckons_124 (by decide) ?_
              refine pm_goto (tgt := 129) C dX16_reckons_125 (by decide) ?_
              cases hf
              exact pm_lret C X dX16_reckons_129 rfl (Nat.le_refl _) (Nat.le_refl _) q
      · have hf := pm_ie hf c6
        refine pm_iload_n C dX16_reckons_36 rfl rfl ?_
        refine pm_iload C dX16_reckons_37 rfl ?_
        refine pm_if_ne (tgt := 47) C dX16_reckons_39 (by decide) (fun c36 => ?_) (fun c36 => ?_)
        · have hf := pm_ie hf c36
          refine pm_bipush (v := 81) C dX16_reckons_47 (by decide) ?_
          exact pm_sub [3, 4, 0] rfl (bX16_reckons_49 C X hf q)
        · have hf := pm_it hf c36
          refine pm_bipush (v := 70) C dX16_reckons_42 (by decide) ?_
          refine pm_goto (tgt := 49) C dX16_reckons_44 (by decide) ?_
          exact pm_sub [3, 4, 0] rfl (bX16_reckons_49 C X hf q)
    · have hf := pm_it hf c5
      refine pm_lload_n C dX16_reckons_18 rfl rfl ?_
      refine pm_lconst (v := 0) C dX16_reckons_19 (by decide) ?_
      refine pm_lcmp C dX16_reckons_20 ?_
      refine pm_if_ne (tgt := 28) C dX16_reckons_21 (by decide) (fun c37 => ?_) (fun c37 => ?_)
      · have hf := pm_ie hf ((fun z => c37 ((pm_lg_eq _ _).mpr z)))
        refine pm_lconst (v := 0) C dX16_reckons_28 (by decide) ?_
        cases hf
        exact pm_lret C X dX16_reckons_29 rfl (Nat.le_refl _) (Nat.le_refl _) q
      · have hf := pm_it hf ((pm_lg_eq _ _).mp c37)
        refine pm_lconst (v := 1) C dX16_reckons_24 (by decide) ?_
        refine pm_goto (tgt := 29) C dX16_reckons_25 (by decide) ?_
        cases hf
        exact pm_lret C X dX16_reckons_29 rfl (Nat.le_refl _) (Nat.le_refl _) q
theorem dX16_startsUp_0 : decode cX16_startsUp 0 = .ok (.iconst 0, 1) := by decide +kernel
theorem dX16_startsUp_1 : decode cX16_startsUp 1 = .ok (.istore_n 2, 1) := by decide +kernel
theorem dX16_startsUp_2 : decode cX16_startsUp 2 = .ok (.iload_n 2, 1) := by decide +kernel
theorem dX16_startsUp_3 : decode cX16_startsUp 3 = .ok (.aload_n 0, 1) := by decide +kernel
theorem dX16_startsUp_4 : decode cX16_startsUp 4 = .ok (.getfield 221, 3) := by decide +kernel
theorem dX16_startsUp_7 : decode cX16_startsUp 7 = .ok (.getfield 481, 3) := by decide +kernel
theorem dX16_startsUp_10 : decode cX16_startsUp 10 = .ok (.if_icmp .ge 104, 3) := by decide +kernel
theorem dX16_startsUp_13 : decode cX16_startsUp 13 = .ok (.aload_n 0, 1) := by decide +kernel
theorem dX16_startsUp_14 : decode cX16_startsUp 14 = .ok (.getfield 221, 3) := by decide +kernel
theorem dX16_startsUp_17 : decode cX16_startsUp 17 = .ok (.getfield 489, 3) := by decide +kernel
theorem dX16_startsUp_20 : decode cX16_startsUp 20 = .ok (.iload_n 2, 1) := by decide +kernel
theorem dX16_startsUp_21 : decode cX16_startsUp 21 = .ok (.iaload, 1) := by decide +kernel
theorem dX16_startsUp_22 : decode cX16_startsUp 22 = .ok (.ifCond .ne 67, 3) := by decide +kernel
theorem dX16_startsUp_25 : decode cX16_startsUp 25 = .ok (.aload_n 0, 1) := by decide +kernel
theorem dX16_startsUp_26 : decode cX16_startsUp 26 = .ok (.iload_n 1, 1) := by decide +kernel
theorem dX16_startsUp_27 : decode cX16_startsUp 27 = .ok (.aload_n 0, 1) := by decide +kernel
theorem dX16_startsUp_28 : decode cX16_startsUp 28 = .ok (.getfield 221, 3) := by decide +kernel
theorem dX16_startsUp_31 : decode cX16_startsUp 31 = .ok (.getfield 495, 3) := by decide +kernel
theorem dX16_startsUp_34 : decode cX16_startsUp 34 = .ok (.iload_n 2, 1) := by decide +kernel
theorem dX16_startsUp_35 : decode cX16_startsUp 35 = .ok (.iaload, 1) := by decide +kernel
theorem dX16_startsUp_36 : decode cX16_startsUp 36 = .ok (.invokevirtual 1020, 3) := by decide +kernel
theorem dX16_startsUp_39 : decode cX16_startsUp 39 = .ok (.lstore_n 3, 1) := by decide +kernel
theorem dX16_startsUp_40 : decode cX16_startsUp 40 = .ok (.aload_n 0, 1) := by decide +kernel
theorem dX16_startsUp_41 : decode cX16_startsUp 41 = .ok (.iload_n 1, 1) := by decide +kernel
theorem dX16_startsUp_42 : decode cX16_startsUp 42 = .ok (.iload_n 2, 1) := by decide +kernel
theorem dX16_startsUp_43 : decode cX16_startsUp 43 = .ok (.aload_n 0, 1) := by decide +kernel
theorem dX16_startsUp_44 : decode cX16_startsUp 44 = .ok (.getfield 137, 3) := by decide +kernel
theorem dX16_startsUp_47 : decode cX16_startsUp 47 = .ok (.sipush 128, 3) := by decide +kernel
theorem dX16_startsUp_50 : decode cX16_startsUp 50 = .ok (.iload_n 1, 1) := by decide +kernel
theorem dX16_startsUp_51 : decode cX16_startsUp 51 = .ok (.imul, 1) := by decide +kernel
theorem dX16_startsUp_52 : decode cX16_startsUp 52 = .ok (.aload_n 0, 1) := by decide +kernel
theorem dX16_startsUp_53 : decode cX16_startsUp 53 = .ok (.getfield 221, 3) := by decide +kernel
theorem dX16_startsUp_56 : decode cX16_startsUp 56 = .ok (.getfield 492, 3) := by decide +kernel
theorem dX16_startsUp_59 : decode cX16_startsUp 59 = .ok (.iload_n 2, 1) := by decide +kernel
theorem dX16_startsUp_60 : decode cX16_startsUp 60 = .ok (.laload, 1) := by decide +kernel
theorem dX16_startsUp_61 : decode cX16_startsUp 61 = .ok (.l2i, 1) := by decide +kernel
theorem dX16_startsUp_62 : decode cX16_startsUp 62 = .ok (.iadd, 1) := by decide +kernel
theorem dX16_startsUp_63 : decode cX16_startsUp 63 = .ok (.iaload, 1) := by decide +kernel
theorem dX16_startsUp_64 : decode cX16_startsUp 64 = .ok (.lload_n 3, 1) := by decide +kernel
theorem dX16_startsUp_65 : decode cX16_startsUp 65 = .ok (.lconst 0, 1) := by decide +kernel
theorem dX16_startsUp_66 : decode cX16_startsUp 66 = .ok (.aload_n 0, 1) := by decide +kernel
theorem dX16_startsUp_67 : decode cX16_startsUp 67 = .ok (.getfield 221, 3) := by decide +kernel
theorem dX16_startsUp_70 : decode cX16_startsUp 70 = .ok (.getfield 507, 3) := by decide +kernel
theorem dX16_startsUp_73 : decode cX16_startsUp 73 = .ok (.iload_n 2, 1) := by decide +kernel
theorem dX16_startsUp_74 : decode cX16_startsUp 74 = .ok (.iaload, 1) := by decide +kernel
theorem dX16_startsUp_75 : decode cX16_startsUp 75 = .ok (.i2l, 1) := by decide +kernel
theorem dX16_startsUp_76 : decode cX16_startsUp 76 = .ok (.invokevirtual 1030, 3) := by decide +kernel
theorem dX16_startsUp_79 : decode cX16_startsUp 79 = .ok (.ifCond .ne 10, 3) := by decide +kernel
theorem dX16_startsUp_82 : decode cX16_startsUp 82 = .ok (.aload_n 0, 1) := by decide +kernel
theorem dX16_startsUp_83 : decode cX16_startsUp 83 = .ok (.bipush 6, 2) := by decide +kernel
theorem dX16_startsUp_85 : decode cX16_startsUp 85 = .ok (.invokevirtual 1034, 3) := by decide +kernel
theorem dX16_startsUp_88 : decode cX16_startsUp 88 = .ok (.return_, 1) := by decide +kernel
theorem dX16_startsUp_89 : decode cX16_startsUp 89 = .ok (.aload_n 0, 1) := by decide +kernel
theorem dX16_startsUp_90 : decode cX16_startsUp 90 = .ok (.getfield 221, 3) := by decide +kernel
theorem dX16_startsUp_93 : decode cX16_startsUp 93 = .ok (.getfield 489, 3) := by decide +kernel
theorem dX16_startsUp_96 : decode cX16_startsUp 96 = .ok (.iload_n 2, 1) := by decide +kernel
theorem dX16_startsUp_97 : decode cX16_startsUp 97 = .ok (.iaload, 1) := by decide +kernel
theorem dX16_startsUp_98 : decode cX16_startsUp 98 = .ok (.iconst 1, 1) := by decide +kernel
theorem dX16_startsUp_99 : decode cX16_startsUp 99 = .ok (.if_icmp .eq 9, 3) := by decide +kernel
theorem dX16_startsUp_102 : decode cX16_startsUp 102 = .ok (.aload_n 0, 1) := by decide +kernel
theorem dX16_startsUp_103 : decode cX16_startsUp 103 = .ok (.iload_n 1, 1) := by decide +kernel
theorem dX16_startsUp_104 : decode cX16_startsUp 104 = .ok (.iload_n 2, 1) := by decide +kernel
theorem dX16_startsUp_105 : decode cX16_startsUp 105 = .ok (.invokevirtual 1037, 3) := by decide +kernel
theorem dX16_startsUp_108 : decode cX16_startsUp 108 = .ok (.iinc 2 1, 3) := by decide +kernel
theorem dX16_startsUp_111 : decode cX16_startsUp 111 = .ok (.goto (-109), 3) := by decide +kernel
theorem dX16_startsUp_114 : decode cX16_startsUp 114 = .ok (.iconst 0, 1) := by decide +kernel
theorem dX16_startsUp_115 : decode cX16_startsUp 115 = .ok (.istore_n 2, 1) := by decide +kernel
theorem dX16_startsUp_116 : decode cX16_startsUp 116 = .ok (.iload_n 2, 1) := by decide +kernel
theorem dX16_startsUp_117 : decode cX16_startsUp 117 = .ok (.aload_n 0, 1) := by decide +kernel
theorem dX16_startsUp_118 : decode cX16_startsUp 118 = .ok (.getfield 221, 3) := by decide +kernel
theorem dX16_startsUp_121 : decode cX16_startsUp 121 = .ok (.getfield 529, 3) := by decide +kernel
theorem dX16_startsUp_124 : decode cX16_startsUp 124 = .ok (.if_icmp .ge 85, 3) := by decide +kernel
theorem dX16_startsUp_127 : decode cX16_startsUp 127 = .ok (.aload_n 0, 1) := by decide +kernel
theorem dX16_startsUp_128 : decode cX16_startsUp 128 = .ok (.getfield 221, 3) := by decide +kernel
theorem dX16_startsUp_131 : decode cX16_startsUp 131 = .ok (.getfield 534, 3) := by decide +kernel
theorem dX16_startsUp_134 : decode cX16_startsUp 134 = .ok (.iload_n 2, 1) := by decide +kernel
theorem dX16_startsUp_135 : decode cX16_startsUp 135 = .ok (.baload, 1) := by decide +kernel
theorem dX16_startsUp_136 : decode cX16_startsUp 136 = .ok (.ifCond .eq 67, 3) := by decide +kernel
theorem dX16_startsUp_139 : decode cX16_startsUp 139 = .ok (.aload_n 0, 1) := by decide +kernel
theorem dX16_startsUp_140 : decode cX16_startsUp 140 = .ok (.iload_n 1, 1) := by decide +kernel
theorem dX16_startsUp_141 : decode cX16_startsUp 141 = .ok (.aload_n 0, 1) := by decide +kernel
theorem dX16_startsUp_142 : decode cX16_startsUp 142 = .ok (.getfield 221, 3) := by decide +kernel
theorem dX16_startsUp_145 : decode cX16_startsUp 145 = .ok (.getfield 540, 3) := by decide +kernel
theorem dX16_startsUp_148 : decode cX16_startsUp 148 = .ok (.iload_n 2, 1) := by decide +kernel
theorem dX16_startsUp_149 : decode cX16_startsUp 149 = .ok (.iaload, 1) := by decide +kernel
theorem dX16_startsUp_150 : decode cX16_startsUp 150 = .ok (.invokevirtual 1020, 3) := by decide +kernel
theorem dX16_startsUp_153 : decode cX16_startsUp 153 = .ok (.lstore_n 3, 1) := by decide +kernel
theorem dX16_startsUp_154 : decode cX16_startsUp 154 = .ok (.aload_n 0, 1) := by decide +kernel
theorem dX16_startsUp_155 : decode cX16_startsUp 155 = .ok (.iload_n 1, 1) := by decide +kernel
theorem dX16_startsUp_156 : decode cX16_startsUp 156 = .ok (.iload_n 2, 1) := by decide +kernel
theorem dX16_startsUp_157 : decode cX16_startsUp 157 = .ok (.aload_n 0, 1) := by decide +kernel
theorem dX16_startsUp_158 : decode cX16_startsUp 158 = .ok (.getfield 140, 3) := by decide +kernel
theorem dX16_startsUp_161 : decode cX16_startsUp 161 = .ok (.sipush 128, 3) := by decide +kernel
theorem dX16_startsUp_164 : decode cX16_startsUp 164 = .ok (.iload_n 1, 1) := by decide +kernel
theorem dX16_startsUp_165 : decode cX16_startsUp 165 = .ok (.imul, 1) := by decide +kernel
theorem dX16_startsUp_166 : decode cX16_startsUp 166 = .ok (.iaload, 1) := by decide +kernel
theorem dX16_startsUp_167 : decode cX16_startsUp 167 = .ok (.lload_n 3, 1) := by decide +kernel
theorem dX16_startsUp_168 : decode cX16_startsUp 168 = .ok (.lconst 0, 1) := by decide +kernel
theorem dX16_startsUp_169 : decode cX16_startsUp 169 = .ok (.aload_n 0, 1) := by decide +kernel
theorem dX16_startsUp_170 : decode cX16_startsUp 170 = .ok (.getfield 221, 3) := by decide +kernel
theorem dX16_startsUp_173 : decode cX16_startsUp 173 = .ok (.getfield 546, 3) := by decide +kernel
theorem dX16_startsUp_176 : decode cX16_startsUp 176 = .ok (.iload_n 2, 1) := by decide +kernel
theorem dX16_startsUp_177 : decode cX16_startsUp 177 = .ok (.iaload, 1) := by decide +kernel
theorem dX16_startsUp_178 : decode cX16_startsUp 178 = .ok (.i2l, 1) := by decide +kernel
theorem dX16_startsUp_179 : decode cX16_startsUp 179 = .ok (.invokevirtual 1040, 3) := by decide +kernel
theorem dX16_startsUp_182 : decode cX16_startsUp 182 = .ok (.ifCond .ne 9, 3) := by decide +kernel
theorem dX16_startsUp_185 : decode cX16_startsUp 185 = .ok (.aload_n 0, 1) := by decide +kernel
theorem dX16_startsUp_186 : decode cX16_startsUp 186 = .ok (.iconst 5, 1) := by decide +kernel
theorem dX16_startsUp_187 : decode cX16_startsUp 187 = .ok (.invokevirtual 1034, 3) := by decide +kernel
theorem dX16_startsUp_190 : decode cX16_startsUp 190 = .ok (.return_, 1) := by decide +kernel
theorem dX16_startsUp_191 : decode cX16_startsUp 191 = .ok (.aload_n 0, 1) := by decide +kernel
theorem dX16_startsUp_192 : decode cX16_startsUp 192 = .ok (.getfield 152, 3) := by decide +kernel
theorem dX16_startsUp_195 : decode cX16_startsUp 195 = .ok (.bipush 64, 2) := by decide +kernel
theorem dX16_startsUp_197 : decode cX16_startsUp 197 = .ok (.iload_n 1, 1) := by decide +kernel
theorem dX16_startsUp_198 : decode cX16_startsUp 198 = .ok (.imul, 1) := by decide +kernel
theorem dX16_startsUp_199 : decode cX16_startsUp 199 = .ok (.iload_n 2, 1) := by decide +kernel
theorem dX16_startsUp_200 : decode cX16_startsUp 200 = .ok (.iadd, 1) := by decide +kernel
theorem dX16_startsUp_201 : decode cX16_startsUp 201 = .ok (.iconst 0, 1) := by decide +kernel
theorem dX16_startsUp_202 : decode cX16_startsUp 202 = .ok (.bastore, 1) := by decide +kernel
theorem dX16_startsUp_203 : decode cX16_startsUp 203 = .ok (.iinc 2 1, 3) := by decide +kernel
theorem dX16_startsUp_206 : decode cX16_startsUp 206 = .ok (.goto (-90), 3) := by decide +kernel
theorem dX16_startsUp_209 : decode cX16_startsUp 209 = .ok (.aload_n 0, 1) := by decide +kernel
theorem dX16_startsUp_210 : decode cX16_startsUp 210 = .ok (.getfield 221, 3) := by decide +kernel
theorem dX16_startsUp_213 : decode cX16_startsUp 213 = .ok (.getfield 348, 3) := by decide +kernel
theorem dX16_startsUp_216 : decode cX16_startsUp 216 = .ok (.lconst 0, 1) := by decide +kernel
theorem dX16_startsUp_217 : decode cX16_startsUp 217 = .ok (.lcmp, 1) := by decide +kernel
theorem dX16_startsUp_218 : decode cX16_startsUp 218 = .ok (.ifCond .lt 26, 3) := by decide +kernel
theorem dX16_startsUp_221 : decode cX16_startsUp 221 = .ok (.aload_n 0, 1) := by decide +kernel
theorem dX16_startsUp_222 : decode cX16_startsUp 222 = .ok (.aload_n 0, 1) := by decide +kernel
theorem dX16_startsUp_223 : decode cX16_startsUp 223 = .ok (.getfield 134, 3) := by decide +kernel
theorem dX16_startsUp_226 : decode cX16_startsUp 226 = .ok (.sipush 128, 3) := by decide +kernel
theorem dX16_startsUp_229 : decode cX16_startsUp 229 = .ok (.iload_n 1, 1) := by decide +kernel
theorem dX16_startsUp_230 : decode cX16_startsUp 230 = .ok (.imul, 1) := by decide +kernel
theorem dX16_startsUp_231 : decode cX16_startsUp 231 = .ok (.aload_n 0, 1) := by decide +kernel
theorem dX16_startsUp_232 : decode cX16_startsUp 232 = .ok (.getfield 221, 3) := by decide +kernel
theorem dX16_startsUp_235 : decode cX16_startsUp 235 = .ok (.getfield 348, 3) := by decide +kernel
theorem dX16_startsUp_238 : decode cX16_startsUp 238 = .ok (.l2i, 1) := by decide +kernel
theorem dX16_startsUp_239 : decode cX16_startsUp 239 = .ok (.iadd, 1) := by decide +kernel
theorem dX16_startsUp_240 : decode cX16_startsUp 240 = .ok (.iaload, 1) := by decide +kernel
theorem dX16_startsUp_241 : decode cX16_startsUp 241 = .ok (.invokevirtual 1043, 3) := by decide +kernel
theorem dX16_startsUp_244 : decode cX16_startsUp 244 = .ok (.return_, 1) := by decide +kernel
noncomputable def tX16_startsUp_2 (x0 : Nat) (x1 : Int32) (x2 : Int32) (h : pm_H) : Option (((Nat × Int32 × Int32 × pm_H) ⊕ (Nat × Int32 × Int32 × pm_H)) ⊕ pm_H) := if pm_kd h x0 = 16 then (pm_R h x0 10).bind fun v2 => if pm_kd h v2 = 14 then if (pm_I h v2 34) ≤ x2 then (some (.inl (.inr ((x0, x1, 0, h))))) else ((pm_R h v2 35).bind fun v6 => if pm_kd h v6 = 34 then if pm_in x2 (pm_ln h v6) then if (pm_I h v6 x2.toNatClampNeg) = 0 then ((pm_R h v2 37).bind fun v19 => if pm_kd h v19 = 34 then if pm_in x2 (pm_ln h v19) then (fX16_constant h x0 x1 (pm_I h v19 x2.toNatClampNeg)).bind fun v23 => if pm_kd v23.2 x0 = 16 then (pm_R v23.2 x0 65).bind fun v26 => (pm_R v23.2 x0 10).bind fun v28 => if pm_kd v23.2 v28 = 14 then (pm_R v23.2 v28 36).bind fun v31 => if pm_kd v23.2 v31 = 35 then if pm_in x2 (pm_ln v23.2 v31) then pm_let ((128 * x1) + ((pm_L v23.2 v31 x2.toNatClampNeg).toInt32)) fun y35 => if pm_kd v23.2 v26 = 34 then if pm_in y35 (pm_ln v23.2 v26) then (pm_R v23.2 v28 40).bind fun v39 => if pm_kd v23.2 v39 = 34 then if pm_in x2 (pm_ln v23.2 v39) then (fX16_copiesElement v23.2 x0 x1 x2 (pm_I v23.2 v26 y35.toNatClampNeg) v23.1 0 ((pm_I v23.2 v39 x2.toNatClampNeg).toInt64)).bind fun v43 => if v43.1 = 0 then (if pm_kd v43.2 x0 = 16 then (fX16_failsAtOnce v43.2 x0 6).bind fun v62 => some (.inr (v62)) else none) else (if pm_kd v43.2 x0 = 16 then (pm_R v43.2 x0 10).bind fun v47 => if pm_kd v43.2 v47 = 14 then (pm_R v43.2 v47 35).bind fun v50 => if pm_kd v43.2 v50 = 34 then if pm_in x2 (pm_ln v43.2 v50) then if (pm_I v43.2 v50 x2.toNatClampNeg) = 1 then (pm_let (x2 + 1) fun y55 => some (.inl (.inl ((x0, x1, y55, v43.2))))) else ((fX16_dropped v43.2 x0 x1 x2).bind fun v57 => pm_let (x2 + 1) fun y59 => some (.inl (.inl ((x0, x1, y59, v57))))) else none else none else none else none) else none else none else none else none else none else none else none else none else none else none) else (if pm_in x2 (pm_ln h v6) then if (pm_I h v6 x2.toNatClampNeg) = 1 then (pm_let (x2 + 1) fun y13 => some (.inl (.inl ((x0, x1, y13, h))))) else ((fX16_dropped h x0 x1 x2).bind fun v15 => pm_let (x2 + 1) fun y17 => some (.inl (.inl ((x0, x1, y17, v15))))) else none) else none else none) else none else none
noncomputable def tX16_startsUp_116 (x0 : Nat) (x1 : Int32) (x2 : Int32) (h : pm_H) : Option (((Nat × Int32 × Int32 × pm_H) ⊕ (Nat × Int32 × Int32 × pm_H)) ⊕ pm_H) := if pm_kd h x0 = 16 then (pm_R h x0 10).bind fun v65 => if pm_kd h v65 = 14 then if (pm_I h v65 44) ≤ x2 then (if (pm_L h v65 33) < 0 then (some (.inr (h))) else ((pm_R h x0 64).bind fun v70 => pm_let ((128 * x1) + ((pm_L h v65 33).toInt32)) fun y72 => if pm_kd h v70 = 34 then if pm_in y72 (pm_ln h v70) then (fX16_calls h x0 (pm_I h v70 y72.toNatClampNeg)).bind fun v76 => some (.inr (v76)) else none else none)) else ((pm_R h v65 45).bind fun v78 => if pm_kd h v78 = 32 then if pm_in x2 (pm_ln h v78) then if (pm_I h v78 x2.toNatClampNeg) = 0 then (pm_let (x2 + 1) fun y83 => some (.inl (.inr ((x0, x1, y83, h))))) else ((pm_R h v65 47).bind fun v85 => if pm_kd h v85 = 34 then if pm_in x2 (pm_ln h v85) then (fX16_constant h x0 x1 (pm_I h v85 x2.toNatClampNeg)).bind fun v89 => if pm_kd v89.2 x0 = 16 then (pm_R v89.2 x0 66).bind fun v92 => pm_let (128 * x1) fun y94 => if pm_kd v89.2 v92 = 34 then if pm_in y94 (pm_ln v89.2 v92) then (pm_R v89.2 x0 10).bind fun v98 => if pm_kd v89.2 v98 = 14 then (pm_R v89.2 v98 49).bind fun v101 => if pm_kd v89.2 v101 = 34 then if pm_in x2 (pm_ln v89.2 v101) then (fX16_copiesData v89.2 x0 x1 x2 (pm_I v89.2 v92 y94.toNatClampNeg) v89.1 0 ((pm_I v89.2 v101 x2.toNatClampNeg).toInt64)).bind fun v105 => if v105.1 = 0 then (if pm_kd v105.2 x0 = 16 then (fX16_failsAtOnce v105.2 x0 5).bind fun v116 => some (.inr (v116)) else none) else (if pm_kd v105.2 x0 = 16 then (pm_R v105.2 x0 70).bind fun v109 => if pm_kd v105.2 v109 = 32 then if pm_in ((64 * x1) + x2) (pm_ln v105.2 v109) then pm_let (x2 + 1) fun y113 => some (.inl (.inr ((x0, x1, y113, pm_setI v105.2 v109 (((64 * x1) + x2).toNatClampNeg) (vp_nar .boolean 0))))) else none else none else none) else none else none else none else none else none else none else none else none) else none else none) else none else none
noncomputable def sX16_startsUp : ((Nat × Int32 × Int32 × pm_H) ⊕ (Nat × Int32 × Int32 × pm_H)) → Option (((Nat × Int32 × Int32 × pm_H) ⊕ (Nat × Int32 × Int32 × pm_H)) ⊕ pm_H) := fun z => match z with
  | .inl (x0, x1, x2, h) => tX16_startsUp_2 x0 x1 x2 h
  | .inr (x0, x1, x2, h) => tX16_startsUp_116 x0 x1 x2 h
noncomputable def fX16_startsUp (h : pm_H) (a0 : Nat) (p1 : Int32) : Option pm_H := pm_lim sX16_startsUp (.inl ((a0, p1, 0, h)))
set_option maxHeartbeats 4000000 in
set_option maxRecDepth 100000 in
theorem lpX16_startsUp {g : pm_Gm} {l : Launch} {G : pm_Gl} {Qr : Option Value → pm_H → Prop} (C : pm_C g cX16_startsUp RX16) (X : pm_X g l G mX16_startsUp 0 0 Qr) {r : pm_H} (q : Qr none r) : ∀ n : Nat, (∀ (x0 : Nat) (x1 : Int32) (x2 : Int32) (h : pm_H), pm_iter sX16_startsUp n (.inl (x0, x1, x2, h)) = some r → pm_G g 2 [(0, .ref x0), (1, .int x1), (2, .int x2)] [] h 0 0) ∧ (∀ (x0 : Nat) (x1 : Int32) (x2 : Int32) (h : pm_H), pm_iter sX16_startsUp n (.inr (x0, x1, x2, h)) = some r → pm_G g 116 [(0, .ref x0), (1, .int x1), (2, .int x2)] [] h 0 0) := by
  intro n
  induction n with
  | zero => exact ⟨fun _ _ _ _ hf => (by cases hf), fun _ _ _ _ hf => (by cases hf)⟩
  | succ n ih =>
    refine ⟨fun x0 x1 x2 h hf => ?_, ?_⟩
    · obtain ⟨y, hf, hi⟩ := pm_iter_s hf
      have hf : tX16_startsUp_2 x0 x1 x2 h = some y := hf
      unfold tX16_startsUp_2 at hf
      refine pm_iload_n C dX16_startsUp_2 rfl rfl ?_
      refine pm_aload_n C dX16_startsUp_3 rfl rfl ?_
      obtain ⟨k1, hf⟩ := pm_if hf
      obtain ⟨v2, e3, hf⟩ := pm_bd hf
      refine pm_getR C dX16_startsUp_4 flX16_221 rfl k1 e3 ?_
      obtain ⟨k4, hf⟩ := pm_if hf
      refine pm_getI C dX16_startsUp_7 flX16_481 rfl k4 rfl ?_
      refine pm_icmp_ge (tgt := 114) C dX16_startsUp_10 (by decide) (fun c5 => ?_) (fun c5 => ?_)
      · have hf := pm_it hf c5
        refine pm_iconst (v := 0) C dX16_startsUp_114 (by decide) ?_
        refine pm_istore_n (lv' := [(2, .int 0), (0, .ref x0), (1, .int x1)]) C dX16_startsUp_115 rfl (pm_nl X (by decide)) rfl ?_
        cases hf
        exact pm_sub [1, 2, 0] rfl (ih.2 x0 x1 0 h hi)
      · have hf := pm_ie hf c5
        refine pm_aload_n C dX16_startsUp_13 rfl rfl ?_
        refine pm_getR C dX16_startsUp_14 flX16_221 rfl k1 e3 ?_
        obtain ⟨v6, e7, hf⟩ := pm_bd hf
        refine pm_getR C dX16_startsUp_17 flX16_489 rfl k4 e7 ?_
        refine pm_iload_n C dX16_startsUp_20 rfl rfl ?_
        obtain ⟨k8, hf⟩ := pm_if hf
        obtain ⟨u9, hf⟩ := pm_if hf
        refine pm_iald C dX16_startsUp_21 k8 u9 rfl ?_
        refine pm_if_ne (tgt := 89) C dX16_startsUp_22 (by decide) (fun c10 => ?_) (fun c10 => ?_)
        · have hf := pm_ie hf c10
          refine pm_aload_n C dX16_startsUp_89 rfl rfl ?_
          refine pm_getR C dX16_startsUp_90 flX16_221 rfl k1 e3 ?_
          refine pm_getR C dX16_startsUp_93 flX16_489 rfl k4 e7 ?_
          refine pm_iload_n C dX16_startsUp_96 rfl rfl ?_
          obtain ⟨u11, hf⟩ := pm_if hf
          refine pm_iald C dX16_startsUp_97 k8 u11 rfl ?_
          refine pm_iconst (v := 1) C dX16_startsUp_98 (by decide) ?_
          refine pm_icmp_eq (tgt := 108) C dX16_startsUp_99 (by decide) (fun c12 => ?_) (fun c12 => ?_)
          · have hf := pm_it hf c12
            obtain ⟨y13, e14, hf⟩ := pm_lt hf
            refine pm_iinc (v := y13) (lv' := [(2, .int y13), (0, .ref x0), (1, .int x1)]) C dX16_startsUp_108 rfl ((congrArg (x2 + ·) (by decide : Int32.ofInt 1 = 1)).trans e14) (pm_nl X (by decide)) rfl ?_
            refine pm_goto (tgt := 2) C dX16_startsUp_111 (by decide) ?_
            cases hf
            exact pm_sub [1, 2, 0] rfl (ih.1 x0 x1 y13 h hi)
          · have hf := pm_ie hf c12
            refine pm_aload_n C dX16_startsUp_102 rfl rfl ?_
            refine pm_iload_n C dX16_startsUp_103 rfl rfl ?_
            refine pm_iload_n C dX16_startsUp_104 rfl rfl ?_
            obtain ⟨v15, e16, hf⟩ := pm_bd hf
            refine pm_callV (as := [.int x1, .int x2]) (st := []) C X dX16_startsUp_105 lnX16_1037 myX16_dropped viX16_dropped ⟨by decide, by decide⟩ rfl rfl k1 (Nat.le_of_ble_eq_true rfl) (Nat.le_refl _) (Nat.le_refl _) (ctX16_dropped e16 ?_)
            show pm_G g 108 [(0, .ref x0), (1, .int x1), (2, .int x2)] [] v15 0 0
            obtain ⟨y17, e18, hf⟩ := pm_lt hf
            refine pm_iinc (v := y17) (lv' := [(2, .int y17), (0, .ref x0), (1, .int x1)]) C dX16_startsUp_108 rfl ((congrArg (x2 + ·) (by decide : Int32.ofInt 1 = 1)).trans e18) (pm_nl X (by decide)) rfl ?_
            refine pm_goto (tgt := 2) C dX16_startsUp_111 (by decide) ?_
            cases hf
            exact pm_sub [1, 2, 0] rfl (ih.1 x0 x1 y17 v15 hi)
        · have hf := pm_it hf c10
          refine pm_aload_n C dX16_startsUp_25 rfl rfl ?_
          refine pm_iload_n C dX16_startsUp_26 rfl rfl ?_
          refine pm_aload_n C dX16_startsUp_27 rfl rfl ?_
          refine pm_getR C dX16_startsUp_28 flX16_221 rfl k1 e3 ?_
          obtain ⟨v19, e20, hf⟩ := pm_bd hf
          refine pm_getR C dX16_startsUp_31 flX16_495 rfl k4 e20 ?_
          refine pm_iload_n C dX16_startsUp_34 rfl rfl ?_
          obtain ⟨k21, hf⟩ := pm_if hf
          obtain ⟨u22, hf⟩ := pm_if hf
          refine pm_iald C dX16_startsUp_35 k21 u22 rfl ?_
          obtain ⟨v23, e24, hf⟩ := pm_bd hf
          refine pm_callV (as := [.int x1, .int (pm_I h v19 x2.toNatClampNeg)]) (st := []) C X dX16_startsUp_36 lnX16_1020 myX16_constant viX16_constant ⟨by decide, by decide⟩ rfl rfl k1 (Nat.le_of_ble_eq_true rfl) (Nat.le_refl _) (Nat.le_refl _) (ctX16_constant e24 ?_)
          show pm_G g 39 [(0, .ref x0), (1, .int x1), (2, .int x2)] [.long v23.1] v23.2 0 0
          refine pm_lstore_n (lv' := [(3, .long v23.1), (0, .ref x0), (1, .int x1), (2, .int x2)]) C dX16_startsUp_39 rfl (pm_nl X (by decide)) rfl ?_
          refine pm_aload_n C dX16_startsUp_40 rfl rfl ?_
          refine pm_iload_n C dX16_startsUp_41 rfl rfl ?_
          refine pm_iload_n C dX16_startsUp_42 rfl rfl ?_
          refine pm_aload_n C dX16_startsUp_43 rfl rfl ?_
          obtain ⟨k25, hf⟩ := pm_if hf
          obtain ⟨v26, e27, hf⟩ := pm_bd hf
          refine pm_getR C dX16_startsUp_44 flX16_137 rfl k25 e27 ?_
          refine pm_sipush (v := 128) C dX16_startsUp_47 (by decide) ?_
          refine pm_iload_n C dX16_startsUp_50 rfl rfl ?_
          refine pm_imul C dX16_startsUp_51 ?_
          refine pm_aload_n C dX16_startsUp_52 rfl rfl ?_
          obtain ⟨v28, e29, hf⟩ := pm_bd hf
          refine pm_getR C dX16_startsUp_53 flX16_221 rfl k25 e29 ?_
          obtain ⟨k30, hf⟩ := pm_if hf
          obtain ⟨v31, e32, hf⟩ := pm_bd hf
          refine pm_getR C dX16_startsUp_56 flX16_492 rfl k30 e32 ?_
          refine pm_iload_n C dX16_startsUp_59 rfl rfl ?_
          obtain ⟨k33, hf⟩ := pm_if hf
          obtain ⟨u34, hf⟩ := pm_if hf
          refine pm_lald C dX16_startsUp_60 k33 u34 rfl ?_
          refine pm_l2i C dX16_startsUp_61 ?_
          refine pm_iadd C dX16_startsUp_62 ?_
          obtain ⟨y35, e36, hf⟩ := pm_lt hf
          refine pm_topI e36 ?_
          obtain ⟨k37, hf⟩ := pm_if hf
          obtain ⟨u38, hf⟩ := pm_if hf
          refine pm_iald C dX16_startsUp_63 k37 u38 rfl ?_
          refine pm_lload_n C dX16_startsUp_64 rfl rfl ?_
          refine pm_lconst (v := 0) C dX16_startsUp_65 (by decide) ?_
          refine pm_aload_n C dX16_startsUp_66 rfl rfl ?_
          refine pm_getR C dX16_startsUp_67 flX16_221 rfl k25 e29 ?_
          obtain ⟨v39, e40, hf⟩ := pm_bd hf
          refine pm_getR C dX16_startsUp_70 flX16_507 rfl k30 e40 ?_
          refine pm_iload_n C dX16_startsUp_73 rfl rfl ?_
          obtain ⟨k41, hf⟩ := pm_if hf
          obtain ⟨u42, hf⟩ := pm_if hf
          refine pm_iald C dX16_startsUp_74 k41 u42 rfl ?_
          refine pm_i2l C dX16_startsUp_75 ?_
          obtain ⟨v43, e44, hf⟩ := pm_bd hf
          refine pm_callV (as := [.int x1, .int x2, .int (pm_I v23.2 v26 y35.toNatClampNeg), .long v23.1, .long 0, .long ((pm_I v23.2 v39 x2.toNatClampNeg).toInt64)]) (st := []) C X dX16_startsUp_76 lnX16_1030 myX16_copiesElement viX16_copiesElement ⟨by decide, by decide⟩ rfl rfl k25 (Nat.le_of_ble_eq_true rfl) (Nat.le_refl _) (Nat.le_refl _) (ctX16_copiesElement e44 ?_)
          show pm_G g 79 [(3, .long v23.1), (0, .ref x0), (1, .int x1), (2, .int x2)] [.int v43.1] v43.2 0 0
          refine pm_if_ne (tgt := 89) C dX16_startsUp_79 (by decide) (fun c45 => ?_) (fun c45 => ?_)
          · have hf := pm_ie hf c45
            refine pm_aload_n C dX16_startsUp_89 rfl rfl ?_
            obtain ⟨k46, hf⟩ := pm_if hf
            obtain ⟨v47, e48, hf⟩ := pm_bd hf
            refine pm_getR C dX16_startsUp_90 flX16_221 rfl k46 e48 ?_
            obtain ⟨k49, hf⟩ := pm_if hf
            obtain ⟨v50, e51, hf⟩ := pm_bd hf
            refine pm_getR C dX16_startsUp_93 flX16_489 rfl k49 e51 ?_
            refine pm_iload_n C dX16_startsUp_96 rfl rfl ?_
            obtain ⟨k52, hf⟩ := pm_if hf
            obtain ⟨u53, hf⟩ := pm_if hf
            refine pm_iald C dX16_startsUp_97 k52 u53 rfl ?_
            refine pm_iconst (v := 1) C dX16_startsUp_98 (by decide) ?_
            refine pm_icmp_eq (tgt := 108) C dX16_startsUp_99 (by decide) (fun c54 => ?_) (fun c54 => ?_)
            · have hf := pm_it hf c54
              obtain ⟨y55, e56, hf⟩ := pm_lt hf
              refine pm_iinc (v := y55) (lv' := [(2, .int y55), (3, .long v23.1), (0, .ref x0), (1, .int x1)]) C dX16_startsUp_108 rfl ((congrArg (x2 + ·) (by decide : Int32.ofInt 1 = 1)).trans e56) (pm_nl X (by decide)) rfl ?_
              refine pm_goto (tgt := 2) C dX16_startsUp_111 (by decide) ?_
              cases hf
              exact pm_sub [2, 3, 0] rfl (ih.1 x0 x1 y55 v43.2 hi)
            · have hf := pm_ie hf c54
              refine pm_aload_n C dX16_startsUp_102 rfl rfl ?_
              refine pm_iload_n C dX16_startsUp_103 rfl rfl ?_
              refine pm_iload_n C dX16_startsUp_104 rfl rfl ?_
              obtain ⟨v57, e58, hf⟩ := pm_bd hf
              refine pm_callV (as := [.int x1, .int x2]) (st := []) C X dX16_startsUp_105 lnX16_1037 myX16_dropped viX16_dropped ⟨by decide, by decide⟩ rfl rfl k46 (Nat.le_of_ble_eq_true rfl) (Nat.le_refl _) (Nat.le_refl _) (ctX16_dropped e58 ?_)
              show pm_G g 108 [(3, .long v23.1), (0, .ref x0), (1, .int x1), (2, .int x2)] [] v57 0 0
              obtain ⟨y59, e60, hf⟩ := pm_lt hf
              refine pm_iinc (v := y59) (lv' := [(2, .int y59), (3, .long v23.1), (0, .ref x0), (1, .int x1)]) C dX16_startsUp_108 rfl ((congrArg (x2 + ·) (by decide : Int32.ofInt 1 = 1)).trans e60) (pm_nl X (by decide)) rfl ?_
              refine pm_goto (tgt := 2) C dX16_startsUp_111 (by decide) ?_
              cases hf
              exact pm_sub [2, 3, 0] rfl (ih.1 x0 x1 y59 v57 hi)
          · have hf := pm_it hf c45
            refine pm_aload_n C dX16_startsUp_82 rfl rfl ?_
            refine pm_bipush (v := 6) C dX16_startsUp_83 (by decide) ?_
            obtain ⟨k61, hf⟩ := pm_if hf
            obtain ⟨v62, e63, hf⟩ := pm_bd hf
            refine pm_callV (as := [.int 6]) (st := []) C X dX16_startsUp_85 lnX16_1034 myX16_failsAtOnce viX16_failsAtOnce ⟨by decide, by decide⟩ rfl rfl k61 (Nat.le_of_ble_eq_true rfl) (Nat.le_refl _) (Nat.le_refl _) (ctX16_failsAtOnce e63 ?_)
            show pm_G g 88 [(3, .long v23.1), (0, .ref x0), (1, .int x1), (2, .int x2)] [] v62 0 0
            cases hf
            cases hi
            exact pm_vret C X dX16_startsUp_88 rfl (Nat.le_refl _) (Nat.le_refl _) q
    refine fun x0 x1 x2 h hf => ?_
    obtain ⟨y, hf, hi⟩ := pm_iter_s hf
    have hf : tX16_startsUp_116 x0 x1 x2 h = some y := hf
    unfold tX16_startsUp_116 at hf
    refine pm_iload_n C dX16_startsUp_116 rfl rfl ?_
    refine pm_aload_n C dX16_startsUp_117 rfl rfl ?_
    obtain ⟨k64, hf⟩ := pm_if hf
    obtain ⟨v65, e66, hf⟩ := pm_bd hf
    refine pm_getR C dX16_startsUp_118 flX16_221 rfl k64 e66 ?_
    obtain ⟨k67, hf⟩ := pm_if hf
    refine pm_getI C dX16_startsUp_121 flX16_529 rfl k67 rfl ?_
    refine pm_icmp_ge (tgt := 209) C dX16_startsUp_124 (by decide) (fun c68 => ?_) (fun c68 => ?_)
    · have hf := pm_it hf c68
      refine pm_aload_n C dX16_startsUp_209 rfl rfl ?_
      refine pm_getR C dX16_startsUp_210 flX16_221 rfl k64 e66 ?_
      refine pm_getL C dX16_startsUp_213 flX16_348 rfl k67 rfl ?_
      refine pm_lconst (v := 0) C dX16_startsUp_216 (by decide) ?_
      refine pm_lcmp C dX16_startsUp_217 ?_
      refine pm_if_lt (tgt := 244) C dX16_startsUp_218 (by decide) (fun c69 => ?_) (fun c69 => ?_)
      · have hf := pm_it hf ((pm_lg_lt _ _).mp c69)
        cases hf
        cases hi
        exact pm_vret C X dX16_startsUp_244 rfl (Nat.le_refl _) (Nat.le_refl _) q
      · have hf := pm_ie hf ((fun z => c69 ((pm_lg_lt _ _).mpr z)))
        refine pm_aload_n C dX16_startsUp_221 rfl rfl ?_
        refine pm_aload_n C dX16_startsUp_222 rfl rfl ?_
        obtain ⟨v70, e71, hf⟩ := pm_bd hf
        refine pm_getR C dX16_startsUp_223 flX16_134 rfl k64 e71 ?_
        refine pm_sipush (v := 128) C dX16_startsUp_226 (by decide) ?_
        refine pm_iload_n C dX16_startsUp_229 rfl rfl ?_
        refine pm_imul C dX16_startsUp_230 ?_
        refine pm_aload_n C dX16_startsUp_231 rfl rfl ?_
        refine pm_getR C dX16_startsUp_232 flX16_221 rfl k64 e66 ?_
        refine pm_getL C dX16_startsUp_235 flX16_348 rfl k67 rfl ?_
        refine pm_l2i C dX16_startsUp_238 ?_
        refine pm_iadd C dX16_startsUp_239 ?_
        obtain ⟨y72, e73, hf⟩ := pm_lt hf
        refine pm_topI e73 ?_
        obtain ⟨k74, hf⟩ := pm_if hf
        obtain ⟨u75, hf⟩ := pm_if hf
        refine pm_iald C dX16_startsUp_240 k74 u75 rfl ?_
        obtain ⟨v76, e77, hf⟩ := pm_bd hf
        refine pm_callV (as := [.int (pm_I h v70 y72.toNatClampNeg)]) (st := []) C X dX16_startsUp_241 lnX16_1043 myX16_calls viX16_calls ⟨by decide, by decide⟩ rfl rfl k64 (Nat.le_of_ble_eq_true rfl) (Nat.le_refl _) (Nat.le_refl _) (ctX16_calls e77 ?_)
        show pm_G g 244 [(0, .ref x0), (1, .int x1), (2, .int x2)] [] v76 0 0
        cases hf
        cases hi
        exact pm_vret C X dX16_startsUp_244 rfl (Nat.le_refl _) (Nat.le_refl _) q
    · have hf := pm_ie hf c68
      refine pm_aload_n C dX16_startsUp_127 rfl rfl ?_
      refine pm_getR C dX16_startsUp_128 flX16_221 rfl k64 e66 ?_
      obtain ⟨v78, e79, hf⟩ := pm_bd hf
      refine pm_getR C dX16_startsUp_131 flX16_534 rfl k67 e79 ?_
      refine pm_iload_n C dX16_startsUp_134 rfl rfl ?_
      obtain ⟨k80, hf⟩ := pm_if hf
      obtain ⟨u81, hf⟩ := pm_if hf
      refine pm_zald C dX16_startsUp_135 k80 u81 rfl ?_
      refine pm_if_eq (tgt := 203) C dX16_startsUp_136 (by decide) (fun c82 => ?_) (fun c82 => ?_)
      · have hf := pm_it hf c82
        obtain ⟨y83, e84, hf⟩ := pm_lt hf
        refine pm_iinc (v := y83) (lv' := [(2, .int y83), (0, .ref x0), (1, .int x1)]) C dX16_startsUp_203 rfl ((congrArg (x2 + ·) (by decide : Int32.ofInt 1 = 1)).trans e84) (pm_nl X (by decide)) rfl ?_
        refine pm_goto (tgt := 116) C dX16_startsUp_206 (by decide) ?_
        cases hf
        exact pm_sub [1, 2, 0] rfl (ih.2 x0 x1 y83 h hi)
      · have hf := pm_ie hf c82
        refine pm_aload_n C dX16_startsUp_139 rfl rfl ?_
        refine pm_iload_n C dX16_startsUp_140 rfl rfl ?_
        refine pm_aload_n C dX16_startsUp_141 rfl rfl ?_
        refine pm_getR C dX16_startsUp_142 flX16_221 rfl k64 e66 ?_
        obtain ⟨v85, e86, hf⟩ := pm_bd hf
        refine pm_getR C dX16_startsUp_145 flX16_540 rfl k67 e86 ?_
        refine pm_iload_n C dX16_startsUp_148 rfl rfl ?_
        obtain ⟨k87, hf⟩ := pm_if hf
        obtain ⟨u88, hf⟩ := pm_if hf
        refine pm_iald C dX16_startsUp_149 k87 u88 rfl ?_
        obtain ⟨v89, e90, hf⟩ := pm_bd hf
        refine pm_callV (as := [.int x1, .int (pm_I h v85 x2.toNatClampNeg)]) (st := []) C X dX16_startsUp_150 lnX16_1020 myX16_constant viX16_constant ⟨by decide, by decide⟩ rfl rfl k64 (Nat.le_of_ble_eq_true rfl) (Nat.le_refl _) (Nat.le_refl _) (ctX16_constant e90 ?_)
        show pm_G g 153 [(0, .ref x0), (1, .int x1), (2, .int x2)] [.long v89.1] v89.2 0 0
        refine pm_lstore_n (lv' := [(3, .long v89.1), (0, .ref x0), (1, .int x1), (2, .int x2)]) C dX16_startsUp_153 rfl (pm_nl X (by decide)) rfl ?_
        refine pm_aload_n C dX16_startsUp_154 rfl rfl ?_
        refine pm_iload_n C dX16_startsUp_155 rfl rfl ?_
        refine pm_iload_n C dX16_startsUp_156 rfl rfl ?_
        refine pm_aload_n C dX16_startsUp_157 rfl rfl ?_
        obtain ⟨k91, hf⟩ := pm_if hf
        obtain ⟨v92, e93, hf⟩ := pm_bd hf
        refine pm_getR C dX16_startsUp_158 flX16_140 rfl k91 e93 ?_
        refine pm_sipush (v := 128) C dX16_startsUp_161 (by decide) ?_
        refine pm_iload_n C dX16_startsUp_164 rfl rfl ?_
        refine pm_imul C dX16_startsUp_165 ?_
        obtain ⟨y94, e95, hf⟩ := pm_lt hf
        refine pm_topI e95 ?_
        obtain ⟨k96, hf⟩ := pm_if hf
        obtain ⟨u97, hf⟩ := pm_if hf
        refine pm_iald C dX16_startsUp_166 k96 u97 rfl ?_
        refine pm_lload_n C dX16_startsUp_167 rfl rfl ?_
        refine pm_lconst (v := 0) C dX16_startsUp_168 (by decide) ?_
        refine pm_aload_n C dX16_startsUp_169 rfl rfl ?_
        obtain ⟨v98, e99, hf⟩ := pm_bd hf
        refine pm_getR C dX16_startsUp_170 flX16_221 rfl k91 e99 ?_
        obtain ⟨k100, hf⟩ := pm_if hf
        obtain ⟨v101, e102, hf⟩ := pm_bd hf
        refine pm_getR C dX16_startsUp_173 flX16_546 rfl k100 e102 ?_
        refine pm_iload_n C dX16_startsUp_176 rfl rfl ?_
        obtain ⟨k103, hf⟩ := pm_if hf
        obtain ⟨u104, hf⟩ := pm_if hf
        refine pm_iald C dX16_startsUp_177 k103 u104 rfl ?_
        refine pm_i2l C dX16_startsUp_178 ?_
        obtain ⟨v105, e106, hf⟩ := pm_bd hf
        refine pm_callV (as := [.int x1, .int x2, .int (pm_I v89.2 v92 y94.toNatClampNeg), .long v89.1, .long 0, .long ((pm_I v89.2 v101 x2.toNatClampNeg).toInt64)]) (st := []) C X dX16_startsUp_179 lnX16_1040 myX16_copiesData viX16_copiesData ⟨by decide, by decide⟩ rfl rfl k91 (Nat.le_of_ble_eq_true rfl) (Nat.le_refl _) (Nat.le_refl _) (ctX16_copiesData e106 ?_)
        show pm_G g 182 [(3, .long v89.1), (0, .ref x0), (1, .int x1), (2, .int x2)] [.int v105.1] v105.2 0 0
        refine pm_if_ne (tgt := 191) C dX16_startsUp_182 (by decide) (fun c107 => ?_) (fun c107 => ?_)
        · have hf := pm_ie hf c107
          refine pm_aload_n C dX16_startsUp_191 rfl rfl ?_
          obtain ⟨k108, hf⟩ := pm_if hf
          obtain ⟨v109, e110, hf⟩ := pm_bd hf
          refine pm_getR C dX16_startsUp_192 flX16_152 rfl k108 e110 ?_
          refine pm_bipush (v := 64) C dX16_startsUp_195 (by decide) ?_
          refine pm_iload_n C dX16_startsUp_197 rfl rfl ?_
          refine pm_imul C dX16_startsUp_198 ?_
          refine pm_iload_n C dX16_startsUp_199 rfl rfl ?_
          refine pm_iadd C dX16_startsUp_200 ?_
          refine pm_iconst (v := 0) C dX16_startsUp_201 (by decide) ?_
          obtain ⟨k111, hf⟩ := pm_if hf
          obtain ⟨u112, hf⟩ := pm_if hf
          refine pm_zast C dX16_startsUp_202 k111 u112 ?_
          obtain ⟨y113, e114, hf⟩ := pm_lt hf
          refine pm_iinc (v := y113) (lv' := [(2, .int y113), (3, .long v89.1), (0, .ref x0), (1, .int x1)]) C dX16_startsUp_203 rfl ((congrArg (x2 + ·) (by decide : Int32.ofInt 1 = 1)).trans e114) (pm_nl X (by decide)) rfl ?_
          refine pm_goto (tgt := 116) C dX16_startsUp_206 (by decide) ?_
          cases hf
          exact pm_sub [2, 3, 0] rfl (ih.2 x0 x1 y113 (pm_setI v105.2 v109 (((64 * x1) + x2).toNatClampNeg) (vp_nar .boolean 0)) hi)
        · have hf := pm_it hf c107
          refine pm_aload_n C dX16_startsUp_185 rfl rfl ?_
          refine pm_iconst (v := 5) C dX16_startsUp_186 (by decide) ?_
          obtain ⟨k115, hf⟩ := pm_if hf
          obtain ⟨v116, e117, hf⟩ := pm_bd hf
          refine pm_callV (as := [.int 5]) (st := []) C X dX16_startsUp_187 lnX16_1034 myX16_failsAtOnce viX16_failsAtOnce ⟨by decide, by decide⟩ rfl rfl k115 (Nat.le_of_ble_eq_true rfl) (Nat.le_refl _) (Nat.le_refl _) (ctX16_failsAtOnce e117 ?_)
          show pm_G g 190 [(3, .long v89.1), (0, .ref x0), (1, .int x1), (2, .int x2)] [] v116 0 0
          cases hf
          cases hi
          exact pm_vret C X dX16_startsUp_190 rfl (Nat.le_refl _) (Nat.le_refl _) q
set_option maxHeartbeats 4000000 in
set_option maxRecDepth 100000 in
theorem ctX16_startsUp {l : Launch} {G : pm_Gl} {h : pm_H} {a0 : Nat} {p1 : Int32} {r : pm_H} {Qr : Option Value → pm_H → Prop} (hf : fX16_startsUp h a0 p1 = some r) (q : Qr none r) : pm_Ct l G mX16_startsUp [.ref a0, .int p1] h 0 0 Qr := by
  refine pm_body pnX16 (Nat.le_of_ble_eq_true rfl) (fun g C X => ?_)
  have C : pm_C g cX16_startsUp RX16 := C
  show pm_G g 0 [(0, .ref a0), (1, .int p1)] [] h 0 0
  unfold fX16_startsUp at hf
  refine pm_iconst (v := 0) C dX16_startsUp_0 (by decide) ?_
  refine pm_istore_n (lv' := [(2, .int 0), (0, .ref a0), (1, .int p1)]) C dX16_startsUp_1 rfl (pm_nl X (by decide)) rfl ?_
  obtain ⟨n, hn⟩ := pm_lim_iter hf
  exact pm_sub [1, 2, 0] rfl ((lpX16_startsUp C X q n).1 a0 p1 0 h hn)
theorem dX16_call_0 : decode cX16_call 0 = .ok (.aload_n 0, 1) := by decide +kernel
theorem dX16_call_1 : decode cX16_call 1 = .ok (.invokevirtual 986, 3) := by decide +kernel
theorem dX16_call_4 : decode cX16_call 4 = .ok (.ifCond .eq 7, 3) := by decide +kernel
theorem dX16_call_7 : decode cX16_call 7 = .ok (.iconst (-1), 1) := by decide +kernel
theorem dX16_call_8 : decode cX16_call 8 = .ok (.goto 10, 3) := by decide +kernel
theorem dX16_call_11 : decode cX16_call 11 = .ok (.aload_n 0, 1) := by decide +kernel
theorem dX16_call_12 : decode cX16_call 12 = .ok (.iconst 0, 1) := by decide +kernel
theorem dX16_call_13 : decode cX16_call 13 = .ok (.iload_n 1, 1) := by decide +kernel
theorem dX16_call_14 : decode cX16_call 14 = .ok (.iload_n 2, 1) := by decide +kernel
theorem dX16_call_15 : decode cX16_call 15 = .ok (.invokevirtual 1074, 3) := by decide +kernel
theorem dX16_call_18 : decode cX16_call 18 = .ok (.istore_n 3, 1) := by decide +kernel
theorem dX16_call_19 : decode cX16_call 19 = .ok (.iload_n 3, 1) := by decide +kernel
theorem dX16_call_20 : decode cX16_call 20 = .ok (.ifCond .lt 24, 3) := by decide +kernel
theorem dX16_call_23 : decode cX16_call 23 = .ok (.aload_n 0, 1) := by decide +kernel
theorem dX16_call_24 : decode cX16_call 24 = .ok (.iload_n 3, 1) := by decide +kernel
theorem dX16_call_25 : decode cX16_call 25 = .ok (.invokevirtual 1077, 3) := by decide +kernel
theorem dX16_call_28 : decode cX16_call 28 = .ok (.aload_n 0, 1) := by decide +kernel
theorem dX16_call_29 : decode cX16_call 29 = .ok (.getfield 1069, 3) := by decide +kernel
theorem dX16_call_32 : decode cX16_call 32 = .ok (.if_icmp .ne 12, 3) := by decide +kernel
theorem dX16_call_35 : decode cX16_call 35 = .ok (.aload_n 0, 1) := by decide +kernel
theorem dX16_call_36 : decode cX16_call 36 = .ok (.iload_n 3, 1) := by decide +kernel
theorem dX16_call_37 : decode cX16_call 37 = .ok (.iconst 0, 1) := by decide +kernel
theorem dX16_call_38 : decode cX16_call 38 = .ok (.invokevirtual 1080, 3) := by decide +kernel
theorem dX16_call_41 : decode cX16_call 41 = .ok (.ifCond .ne 5, 3) := by decide +kernel
theorem dX16_call_44 : decode cX16_call 44 = .ok (.iconst 0, 1) := by decide +kernel
theorem dX16_call_45 : decode cX16_call 45 = .ok (.ireturn, 1) := by decide +kernel
theorem dX16_call_46 : decode cX16_call 46 = .ok (.iconst 0, 1) := by decide +kernel
theorem dX16_call_47 : decode cX16_call 47 = .ok (.istore 4, 2) := by decide +kernel
theorem dX16_call_49 : decode cX16_call 49 = .ok (.iload 4, 2) := by decide +kernel
theorem dX16_call_51 : decode cX16_call 51 = .ok (.aload_n 0, 1) := by decide +kernel
theorem dX16_call_52 : decode cX16_call 52 = .ok (.getfield 1069, 3) := by decide +kernel
theorem dX16_call_55 : decode cX16_call 55 = .ok (.if_icmp .ge 47, 3) := by decide +kernel
theorem dX16_call_58 : decode cX16_call 58 = .ok (.aload_n 0, 1) := by decide +kernel
theorem dX16_call_59 : decode cX16_call 59 = .ok (.getfield 170, 3) := by decide +kernel
theorem dX16_call_62 : decode cX16_call 62 = .ok (.iload 4, 2) := by decide +kernel
theorem dX16_call_64 : decode cX16_call 64 = .ok (.aload_n 0, 1) := by decide +kernel
theorem dX16_call_65 : decode cX16_call 65 = .ok (.iload_n 3, 1) := by decide +kernel
theorem dX16_call_66 : decode cX16_call 66 = .ok (.invokevirtual 1065, 3) := by decide +kernel
theorem dX16_call_69 : decode cX16_call 69 = .ok (.getfield 374, 3) := by decide +kernel
theorem dX16_call_72 : decode cX16_call 72 = .ok (.bipush 32, 2) := by decide +kernel
theorem dX16_call_74 : decode cX16_call 74 = .ok (.aload_n 0, 1) := by decide +kernel
theorem dX16_call_75 : decode cX16_call 75 = .ok (.getfield 71, 3) := by decide +kernel
theorem dX16_call_78 : decode cX16_call 78 = .ok (.iload_n 3, 1) := by decide +kernel
theorem dX16_call_79 : decode cX16_call 79 = .ok (.iaload, 1) := by decide +kernel
theorem dX16_call_80 : decode cX16_call 80 = .ok (.imul, 1) := by decide +kernel
theorem dX16_call_81 : decode cX16_call 81 = .ok (.iload 4, 2) := by decide +kernel
theorem dX16_call_83 : decode cX16_call 83 = .ok (.iadd, 1) := by decide +kernel
theorem dX16_call_84 : decode cX16_call 84 = .ok (.iaload, 1) := by decide +kernel
theorem dX16_call_85 : decode cX16_call 85 = .ok (.aload_n 0, 1) := by decide +kernel
theorem dX16_call_86 : decode cX16_call 86 = .ok (.getfield 167, 3) := by decide +kernel
theorem dX16_call_89 : decode cX16_call 89 = .ok (.iload 4, 2) := by decide +kernel
theorem dX16_call_91 : decode cX16_call 91 = .ok (.laload, 1) := by decide +kernel
theorem dX16_call_92 : decode cX16_call 92 = .ok (.invokestatic 1083, 3) := by decide +kernel
theorem dX16_call_95 : decode cX16_call 95 = .ok (.lastore, 1) := by decide +kernel
theorem dX16_call_96 : decode cX16_call 96 = .ok (.iinc 4 1, 3) := by decide +kernel
theorem dX16_call_99 : decode cX16_call 99 = .ok (.goto (-50), 3) := by decide +kernel
theorem dX16_call_102 : decode cX16_call 102 = .ok (.aload_n 0, 1) := by decide +kernel
theorem dX16_call_103 : decode cX16_call 103 = .ok (.iconst 0, 1) := by decide +kernel
theorem dX16_call_104 : decode cX16_call 104 = .ok (.putfield 1069, 3) := by decide +kernel
theorem dX16_call_107 : decode cX16_call 107 = .ok (.aload_n 0, 1) := by decide +kernel
theorem dX16_call_108 : decode cX16_call 108 = .ok (.iload_n 3, 1) := by decide +kernel
theorem dX16_call_109 : decode cX16_call 109 = .ok (.invokevirtual 1043, 3) := by decide +kernel
theorem dX16_call_112 : decode cX16_call 112 = .ok (.iconst 1, 1) := by decide +kernel
theorem dX16_call_113 : decode cX16_call 113 = .ok (.ireturn, 1) := by decide +kernel
noncomputable def tX16_call_49 (x0 : Nat) (x3 : Int32) (x4 : Int32) (h : pm_H) : Option (((Nat × Int32 × Int32 × pm_H)) ⊕ (Int32 × pm_H)) := if pm_kd h x0 = 16 then if (pm_I h x0 81) ≤ x4 then ((fX16_calls (pm_setI h x0 81 0) x0 x3).bind fun v23 => some (.inr ((1, v23)))) else ((pm_R h x0 84).bind fun v25 => (fX16_planOf h x0 x3).bind fun v27 => if pm_kd h v27 = 14 then (pm_R h v27 7).bind fun v30 => (pm_R h x0 38).bind fun v32 => if pm_kd h v32 = 34 then if pm_in x3 (pm_ln h v32) then pm_let ((32 * (pm_I h v32 x3.toNatClampNeg)) + x4) fun y36 => if pm_kd h v30 = 34 then if pm_in y36 (pm_ln h v30) then (pm_R h x0 82).bind fun v40 => if pm_kd h v40 = 35 then if pm_in x4 (pm_ln h v40) then pm_let (fX16_held (pm_I h v30 y36.toNatClampNeg) (pm_L h v40 x4.toNatClampNeg)) fun v44 => if pm_kd h v25 = 35 then if pm_in x4 (pm_ln h v25) then pm_let (x4 + 1) fun y48 => some (.inl ((x0, x3, y48, pm_setL h v25 x4.toNatClampNeg v44))) else none else none else none else none else none else none else none else none else none) else none
noncomputable def sX16_call : ((Nat × Int32 × Int32 × pm_H)) → Option (((Nat × Int32 × Int32 × pm_H)) ⊕ (Int32 × pm_H)) := fun z => match z with
  | (x0, x3, x4, h) => tX16_call_49 x0 x3 x4 h
noncomputable def fX16_call (h : pm_H) (a0 : Nat) (p1 : Int32) (p2 : Int32) : Option (Int32 × pm_H) := if pm_kd h a0 = 16 then (fX16_runs h a0).bind fun v2 => if v2 = 0 then ((fX16_exportedAs h a0 0 p1 p2).bind fun v5 => if v5 < 0 then (some ((0, h))) else ((fX16_parametersIn h a0 v5).bind fun v8 => if v8 = (pm_I h a0 81) then ((fX16_areSuch h a0 v5 0).bind fun v11 => if v11 = 0 then (some ((0, h))) else (pm_lim sX16_call ((a0, v5, 0, h)))) else (some ((0, h))))) else (if ((-1) : Int32) < (0 : Int32) then (some ((0, h))) else ((fX16_parametersIn h a0 (-1)).bind fun v15 => if v15 = (pm_I h a0 81) then ((fX16_areSuch h a0 (-1) 0).bind fun v18 => if v18 = 0 then (some ((0, h))) else (pm_lim sX16_call ((a0, (-1), 0, h)))) else (some ((0, h))))) else none
set_option maxHeartbeats 4000000 in
set_option maxRecDepth 100000 in
theorem lpX16_call {g : pm_Gm} {l : Launch} {G : pm_Gl} {Qr : Option Value → pm_H → Prop} (C : pm_C g cX16_call RX16) (X : pm_X g l G mX16_call 0 0 Qr) {r : (Int32 × pm_H)} (q : Qr (some (.int r.1)) r.2) : ∀ n : Nat, (∀ (x0 : Nat) (x3 : Int32) (x4 : Int32) (h : pm_H), pm_iter sX16_call n (x0, x3, x4, h) = some r → pm_G g 49 [(0, .ref x0), (3, .int x3), (4, .int x4)] [] h 0 0) := by
  intro n
  induction n with
  | zero => exact fun _ _ _ _ hf => (by cases hf)
  | succ n ih =>
    refine fun x0 x3 x4 h hf => ?_
    obtain ⟨y, hf, hi⟩ := pm_iter_s hf
    have hf : tX16_call_49 x0 x3 x4 h = some y := hf
    unfold tX16_call_49 at hf
    refine pm_iload C dX16_call_49 rfl ?_
    refine pm_aload_n C dX16_call_51 rfl rfl ?_
    obtain ⟨k21, hf⟩ := pm_if hf
    refine pm_getI C dX16_call_52 flX16_1069 rfl k21 rfl ?_
    refine pm_icmp_ge (tgt := 102) C dX16_call_55 (by decide) (fun c22 => ?_) (fun c22 => ?_)
    · have hf := pm_it hf c22
      refine pm_aload_n C dX16_call_102 rfl rfl ?_
      refine pm_iconst (v := 0) C dX16_call_103 (by decide) ?_
      refine pm_putI C dX16_call_104 flX16_1069 rfl rfl k21 rfl rfl ?_
      refine pm_aload_n C dX16_call_107 rfl rfl ?_
      refine pm_iload_n C dX16_call_108 rfl rfl ?_
      obtain ⟨v23, e24, hf⟩ := pm_bd hf
      refine pm_callV (as := [.int x3]) (st := []) C X dX16_call_109 lnX16_1043 myX16_calls viX16_calls ⟨by decide, by decide⟩ rfl rfl k21 (Nat.le_of_ble_eq_true rfl) (Nat.le_refl _) (Nat.le_refl _) (ctX16_calls e24 ?_)
      show pm_G g 112 [(0, .ref x0), (3, .int x3), (4, .int x4)] [] v23 0 0
      refine pm_iconst (v := 1) C dX16_call_112 (by decide) ?_
      cases hf
      cases hi
      exact pm_zret C X dX16_call_113 rfl (by decide) (Nat.le_refl _) (Nat.le_refl _) q
    · have hf := pm_ie hf c22
      refine pm_aload_n C dX16_call_58 rfl rfl ?_
      obtain ⟨v25, e26, hf⟩ := pm_bd hf
      refine pm_getR C dX16_call_59 flX16_170 rfl k21 e26 ?_
      refine pm_iload C dX16_call_62 rfl ?_
      refine pm_aload_n C dX16_call_64 rfl rfl ?_
      refine pm_iload_n C dX16_call_65 rfl rfl ?_
      obtain ⟨v27, e28, hf⟩ := pm_bd hf
      refine pm_callV (as := [.int x3]) (st := [.int x4, .ref v25]) C X dX16_call_66 lnX16_1065 myX16_planOf viX16_planOf ⟨by decide, by decide⟩ rfl rfl k21 (Nat.le_of_ble_eq_true rfl) (Nat.le_refl _) (Nat.le_refl _) (ctX16_planOf e28 ?_)
      show pm_G g 69 [(0, .ref x0), (3, .int x3), (4, .int x4)] [.ref v27, .int x4, .ref v25] h 0 0
      obtain ⟨k29, hf⟩ := pm_if hf
      obtain ⟨v30, e31, hf⟩ := pm_bd hf
      refine pm_getR C dX16_call_69 flX16_374 rfl k29 e31 ?_
      refine pm_bipush (v := 32) C dX16_call_72 (by decide) ?_
      refine pm_aload_n C dX16_call_74 rfl rfl ?_
      obtain ⟨v32, e33, hf⟩ := pm_bd hf
      refine pm_getR C dX16_call_75 flX16_71 rfl k21 e33 ?_
      refine pm_iload_n C dX16_call_78 rfl rfl ?_
      obtain ⟨k34, hf⟩ := pm_if hf
      obtain ⟨u35, hf⟩ := pm_if hf
      refine pm_iald C dX16_call_79 k34 u35 rfl ?_
      refine pm_imul C dX16_call_80 ?_
      refine pm_iload C dX16_call_81 rfl ?_
      refine pm_iadd C dX16_call_83 ?_
      obtain ⟨y36, e37, hf⟩ := pm_lt hf
      refine pm_topI e37 ?_
      obtain ⟨k38, hf⟩ := pm_if hf
      obtain ⟨u39, hf⟩ := pm_if hf
      refine pm_iald C dX16_call_84 k38 u39 rfl ?_
      refine pm_aload_n C dX16_call_85 rfl rfl ?_
      obtain ⟨v40, e41, hf⟩ := pm_bd hf
      refine pm_getR C dX16_call_86 flX16_167 rfl k21 e41 ?_
      refine pm_iload C dX16_call_89 rfl ?_
      obtain ⟨k42, hf⟩ := pm_if hf
      obtain ⟨u43, hf⟩ := pm_if hf
      refine pm_lald C dX16_call_91 k42 u43 rfl ?_
      obtain ⟨v44, e45, hf⟩ := pm_lt hf
      refine pm_callS (as := [.int (pm_I h v30 y36.toNatClampNeg), .long (pm_L h v40 x4.toNatClampNeg)]) (st := [.int x4, .ref v25]) C X dX16_call_92 lnX16_1083 myX16_held stX16_held ⟨by decide, by decide⟩ rfl rfl (Nat.le_of_ble_eq_true rfl) (Nat.le_refl _) (Nat.le_refl _) (ctX16_held e45 ?_)
      show pm_G g 95 [(0, .ref x0), (3, .int x3), (4, .int x4)] [.long v44, .int x4, .ref v25] h 0 0
      obtain ⟨k46, hf⟩ := pm_if hf
      obtain ⟨u47, hf⟩ := pm_if hf
      refine pm_last C dX16_call_95 k46 u47 ?_
      obtain ⟨y48, e49, hf⟩ := pm_lt hf
      refine pm_iinc (v := y48) (lv' := [(4, .int y48), (0, .ref x0), (3, .int x3)]) C dX16_call_96 rfl ((congrArg (x4 + ·) (by decide : Int32.ofInt 1 = 1)).trans e49) (pm_nl X (by decide)) rfl ?_
      refine pm_goto (tgt := 49) C dX16_call_99 (by decide) ?_
      cases hf
      exact pm_sub [1, 2, 0] rfl (ih x0 x3 y48 (pm_setL h v25 x4.toNatClampNeg v44) hi)
set_option maxHeartbeats 4000000 in
set_option maxRecDepth 100000 in
theorem ctX16_call {l : Launch} {G : pm_Gl} {h : pm_H} {a0 : Nat} {p1 : Int32} {p2 : Int32} {r : (Int32 × pm_H)} {Qr : Option Value → pm_H → Prop} (hf : fX16_call h a0 p1 p2 = some r) (q : Qr (some (.int r.1)) r.2) : pm_Ct l G mX16_call [.ref a0, .int p1, .int p2] h 0 0 Qr := by
  refine pm_body pnX16 (Nat.le_of_ble_eq_true rfl) (fun g C X => ?_)
  have C : pm_C g cX16_call RX16 := C
  show pm_G g 0 [(0, .ref a0), (1, .int p1), (2, .int p2)] [] h 0 0
  unfold fX16_call at hf
  refine pm_aload_n C dX16_call_0 rfl rfl ?_
  obtain ⟨k1, hf⟩ := pm_if hf
  obtain ⟨v2, e3, hf⟩ := pm_bd hf
  refine pm_callV (as := []) (st := []) C X dX16_call_1 lnX16_986 myX16_runs viX16_runs ⟨by decide, by decide⟩ rfl rfl k1 (Nat.le_of_ble_eq_true rfl) (Nat.le_refl _) (Nat.le_refl _) (ctX16_runs e3 ?_)
  show pm_G g 4 [(0, .ref a0), (1, .int p1), (2, .int p2)] [.int v2] h 0 0
  refine pm_if_eq (tgt := 11) C dX16_call_4 (by decide) (fun c4 => ?_) (fun c4 => ?_)
  · have hf := pm_it hf c4
    refine pm_aload_n C dX16_call_11 rfl rfl ?_
    refine pm_iconst (v := 0) C dX16_call_12 (by decide) ?_
    refine pm_iload_n C dX16_call_13 rfl rfl ?_
    refine pm_iload_n C dX16_call_14 rfl rfl ?_
    obtain ⟨v5, e6, hf⟩ := pm_bd hf
    refine pm_callV (as := [.int 0, .int p1, .int p2]) (st := []) C X dX16_call_15 lnX16_1074 myX16_exportedAs viX16_exportedAs ⟨by decide, by decide⟩ rfl rfl k1 (Nat.le_of_ble_eq_true rfl) (Nat.le_refl _) (Nat.le_refl _) (ctX16_exportedAs e6 ?_)
    show pm_G g 18 [(0, .ref a0), (1, .int p1), (2, .int p2)] [.int v5] h 0 0
    refine pm_istore_n (lv' := [(3, .int v5), (0, .ref a0), (1, .int p1), (2, .int p2)]) C dX16_call_18 rfl (pm_nl X (by decide)) rfl ?_
    refine pm_iload_n C dX16_call_19 rfl rfl ?_
    refine pm_if_lt (tgt := 44) C dX16_call_20 (by decide) (fun c7 => ?_) (fun c7 => ?_)
    · have hf := pm_it hf c7
      refine pm_iconst (v := 0) C dX16_call_44 (by decide) ?_
      cases hf
      exact pm_zret C X dX16_call_45 rfl (by decide) (Nat.le_refl _) (Nat.le_refl _) q
    · have hf := pm_ie hf c7
      refine pm_aload_n C dX16_call_23 rfl rfl ?_
      refine pm_iload_n C dX16_call_24 rfl rfl ?_
      obtain ⟨v8, e9, hf⟩ := pm_bd hf
      refine pm_callV (as := [.int v5]) (st := []) C X dX16_call_25 lnX16_1077 myX16_parametersIn viX16_parametersIn ⟨by decide, by decide⟩ rfl rfl k1 (Nat.le_of_ble_eq_true rfl) (Nat.le_refl _) (Nat.le_refl _) (ctX16_parametersIn e9 ?_)
      show pm_G g 28 [(3, .int v5), (0, .ref a0), (1, .int p1), (2, .int p2)] [.int v8] h 0 0
      refine pm_aload_n C dX16_call_28 rfl rfl ?_
      refine pm_getI C dX16_call_29 flX16_1069 rfl k1 rfl ?_
      refine pm_icmp_ne (tgt := 44) C dX16_call_32 (by decide) (fun c10 => ?_) (fun c10 => ?_)
      · have hf := pm_ie hf c10
        refine pm_iconst (v := 0) C dX16_call_44 (by decide) ?_
        cases hf
        exact pm_zret C X dX16_call_45 rfl (by decide) (Nat.le_refl _) (Nat.le_refl _) q
      · have hf := pm_it hf c10
        refine pm_aload_n C dX16_call_35 rfl rfl ?_
        refine pm_iload_n C dX16_call_36 rfl rfl ?_
        refine pm_iconst (v := 0) C dX16_call_37 (by decide) ?_
        obtain ⟨v11, e12, hf⟩ := pm_bd hf
        refine pm_callV (as := [.int v5, .int 0]) (st := []) C X dX16_call_38 lnX16_1080 myX16_areSuch viX16_areSuch ⟨by decide, by decide⟩ rfl rfl k1 (Nat.le_of_ble_eq_true rfl) (Nat.le_refl _) (Nat.le_refl _) (ctX16_areSuch e12 ?_)
        show pm_G g 41 [(3, .int v5), (0, .ref a0), (1, .int p1), (2, .int p2)] [.int v11] h 0 0
        refine pm_if_ne (tgt := 46) C dX16_call_41 (by decide) (fun c13 => ?_) (fun c13 => ?_)
        · have hf := pm_ie hf c13
          refine pm_iconst (v := 0) C dX16_call_46 (by decide) ?_
          refine pm_istore (lv' := [(4, .int 0), (3, .int v5), (0, .ref a0), (1, .int p1), (2, .int p2)]) C dX16_call_47 (pm_nl X (by decide)) rfl ?_
          obtain ⟨n, hn⟩ := pm_lim_iter hf
          exact pm_sub [2, 1, 0] rfl ((lpX16_call C X q n) a0 v5 0 h hn)
        · have hf := pm_it hf c13
          refine pm_iconst (v := 0) C dX16_call_44 (by decide) ?_
          cases hf
          exact pm_zret C X dX16_call_45 rfl (by decide) (Nat.le_refl _) (Nat.le_refl _) q
  · have hf := pm_ie hf c4
    refine pm_iconst (v := (-1)) C dX16_call_7 (by decide) ?_
    refine pm_goto (tgt := 18) C dX16_call_8 (by decide) ?_
    refine pm_istore_n (lv' := [(3, .int (-1)), (0, .ref a0), (1, .int p1), (2, .int p2)]) C dX16_call_18 rfl (pm_nl X (by decide)) rfl ?_
    refine pm_iload_n C dX16_call_19 rfl rfl ?_
    refine pm_if_lt (tgt := 44) C dX16_call_20 (by decide) (fun c14 => ?_) (fun c14 => ?_)
    · have hf := pm_it hf c14
      refine pm_iconst (v := 0) C dX16_call_44 (by decide) ?_
      cases hf
      exact pm_zret C X dX16_call_45 rfl (by decide) (Nat.le_refl _) (Nat.le_refl _) q
    · have hf := pm_ie hf c14
      refine pm_aload_n C dX16_call_23 rfl rfl ?_
      refine pm_iload_n C dX16_call_24 rfl rfl ?_
      obtain ⟨v15, e16, hf⟩ := pm_bd hf
      refine pm_callV (as := [.int (-1)]) (st := []) C X dX16_call_25 lnX16_1077 myX16_parametersIn viX16_parametersIn ⟨by decide, by decide⟩ rfl rfl k1 (Nat.le_of_ble_eq_true rfl) (Nat.le_refl _) (Nat.le_refl _) (ctX16_parametersIn e16 ?_)
      show pm_G g 28 [(3, .int (-1)), (0, .ref a0), (1, .int p1), (2, .int p2)] [.int v15] h 0 0
      refine pm_aload_n C dX16_call_28 rfl rfl ?_
      refine pm_getI C dX16_call_29 flX16_1069 rfl k1 rfl ?_
      refine pm_icmp_ne (tgt := 44) C dX16_call_32 (by decide) (fun c17 => ?_) (fun c17 => ?_)
      · have hf := pm_ie hf c17
        refine pm_iconst (v := 0) C dX16_call_44 (by decide) ?_
        cases hf
        exact pm_zret C X dX16_call_45 rfl (by decide) (Nat.le_refl _) (Nat.le_refl _) q
      · have hf := pm_it hf c17
        refine pm_aload_n C dX16_call_35 rfl rfl ?_
        refine pm_iload_n C dX16_call_36 rfl rfl ?_
        refine pm_iconst (v := 0) C dX16_call_37 (by decide) ?_
        obtain ⟨v18, e19, hf⟩ := pm_bd hf
        refine pm_callV (as := [.int (-1), .int 0]) (st := []) C X dX16_call_38 lnX16_1080 myX16_areSuch viX16_areSuch ⟨by decide, by decide⟩ rfl rfl k1 (Nat.le_of_ble_eq_true rfl) (Nat.le_refl _) (Nat.le_refl _) (ctX16_areSuch e19 ?_)
        show pm_G g 41 [(3, .int (-1)), (0, .ref a0), (1, .int p1), (2, .int p2)] [.int v18] h 0 0
        refine pm_if_ne (tgt := 46) C dX16_call_41 (by decide) (fun c20 => ?_) (fun c20 => ?_)
        · have hf := pm_ie hf c20
          refine pm_iconst (v := 0) C dX16_call_46 (by decide) ?_
          refine pm_istore (lv' := [(4, .int 0), (3, .int (-1)), (0, .ref a0), (1, .int p1), (2, .int p2)]) C dX16_call_47 (pm_nl X (by decide)) rfl ?_
          obtain ⟨n, hn⟩ := pm_lim_iter hf
          exact pm_sub [2, 1, 0] rfl ((lpX16_call C X q n) a0 (-1) 0 h hn)
        · have hf := pm_it hf c20
          refine pm_iconst (v := 0) C dX16_call_44 (by decide) ?_
          cases hf
          exact pm_zret C X dX16_call_45 rfl (by decide) (Nat.le_refl _) (Nat.le_refl _) q
