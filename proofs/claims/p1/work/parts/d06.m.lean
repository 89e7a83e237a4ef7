theorem dX8_apply_0 : decode cX8_apply 0 = .ok (.aload_n 0, 1) := by decide +kernel
theorem dX8_apply_1 : decode cX8_apply 1 = .ok (.iconst 0, 1) := by decide +kernel
theorem dX8_apply_2 : decode cX8_apply 2 = .ok (.putfield 31, 3) := by decide +kernel
theorem dX8_apply_5 : decode cX8_apply 5 = .ok (.iload_n 1, 1) := by decide +kernel
theorem dX8_apply_6 : decode cX8_apply 6 = .ok (.bipush 80, 2) := by decide +kernel
theorem dX8_apply_8 : decode cX8_apply 8 = .ok (.if_icmp .ge 24, 3) := by decide +kernel
theorem dX8_apply_11 : decode cX8_apply 11 = .ok (.iload_n 1, 1) := by decide +kernel
theorem dX8_apply_12 : decode cX8_apply 12 = .ok (.bipush 69, 2) := by decide +kernel
theorem dX8_apply_14 : decode cX8_apply 14 = .ok (.isub, 1) := by decide +kernel
theorem dX8_apply_15 : decode cX8_apply 15 = .ok (.lload_n 2, 1) := by decide +kernel
theorem dX8_apply_16 : decode cX8_apply 16 = .ok (.l2i, 1) := by decide +kernel
theorem dX8_apply_17 : decode cX8_apply 17 = .ok (.i2l, 1) := by decide +kernel
theorem dX8_apply_18 : decode cX8_apply 18 = .ok (.lload 4, 2) := by decide +kernel
theorem dX8_apply_20 : decode cX8_apply 20 = .ok (.l2i, 1) := by decide +kernel
theorem dX8_apply_21 : decode cX8_apply 21 = .ok (.i2l, 1) := by decide +kernel
theorem dX8_apply_22 : decode cX8_apply 22 = .ok (.lload_n 2, 1) := by decide +kernel
theorem dX8_apply_23 : decode cX8_apply 23 = .ok (.lload 4, 2) := by decide +kernel
theorem dX8_apply_25 : decode cX8_apply 25 = .ok (.invokestatic 35, 3) := by decide +kernel
theorem dX8_apply_28 : decode cX8_apply 28 = .ok (.invokestatic 41, 3) := by decide +kernel
theorem dX8_apply_31 : decode cX8_apply 31 = .ok (.lreturn, 1) := by decide +kernel
theorem dX8_apply_32 : decode cX8_apply 32 = .ok (.iload_n 1, 1) := by decide +kernel
theorem dX8_apply_33 : decode cX8_apply 33 = .ok (.bipush 91, 2) := by decide +kernel
theorem dX8_apply_35 : decode cX8_apply 35 = .ok (.if_icmp .ge 20, 3) := by decide +kernel
theorem dX8_apply_38 : decode cX8_apply 38 = .ok (.iload_n 1, 1) := by decide +kernel
theorem dX8_apply_39 : decode cX8_apply 39 = .ok (.bipush 80, 2) := by decide +kernel
theorem dX8_apply_41 : decode cX8_apply 41 = .ok (.isub, 1) := by decide +kernel
theorem dX8_apply_42 : decode cX8_apply 42 = .ok (.lload_n 2, 1) := by decide +kernel
theorem dX8_apply_43 : decode cX8_apply 43 = .ok (.lload 4, 2) := by decide +kernel
theorem dX8_apply_45 : decode cX8_apply 45 = .ok (.lload_n 2, 1) := by decide +kernel
theorem dX8_apply_46 : decode cX8_apply 46 = .ok (.lload 4, 2) := by decide +kernel
theorem dX8_apply_48 : decode cX8_apply 48 = .ok (.invokestatic 45, 3) := by decide +kernel
theorem dX8_apply_51 : decode cX8_apply 51 = .ok (.invokestatic 41, 3) := by decide +kernel
theorem dX8_apply_54 : decode cX8_apply 54 = .ok (.lreturn, 1) := by decide +kernel
theorem dX8_apply_55 : decode cX8_apply 55 = .ok (.iload_n 1, 1) := by decide +kernel
theorem dX8_apply_56 : decode cX8_apply 56 = .ok (.bipush 97, 2) := by decide +kernel
theorem dX8_apply_58 : decode cX8_apply 58 = .ok (.if_icmp .ge 15, 3) := by decide +kernel
theorem dX8_apply_61 : decode cX8_apply 61 = .ok (.iconst 2, 1) := by decide +kernel
theorem dX8_apply_62 : decode cX8_apply 62 = .ok (.iload_n 1, 1) := by decide +kernel
theorem dX8_apply_63 : decode cX8_apply 63 = .ok (.bipush 91, 2) := by decide +kernel
theorem dX8_apply_65 : decode cX8_apply 65 = .ok (.isub, 1) := by decide +kernel
theorem dX8_apply_66 : decode cX8_apply 66 = .ok (.lload_n 2, 1) := by decide +kernel
theorem dX8_apply_67 : decode cX8_apply 67 = .ok (.lload 4, 2) := by decide +kernel
theorem dX8_apply_69 : decode cX8_apply 69 = .ok (.invokestatic 48, 3) := by decide +kernel
theorem dX8_apply_72 : decode cX8_apply 72 = .ok (.lreturn, 1) := by decide +kernel
theorem dX8_apply_73 : decode cX8_apply 73 = .ok (.iload_n 1, 1) := by decide +kernel
theorem dX8_apply_74 : decode cX8_apply 74 = .ok (.bipush 103, 2) := by decide +kernel
theorem dX8_apply_76 : decode cX8_apply 76 = .ok (.if_icmp .ge 15, 3) := by decide +kernel
theorem dX8_apply_79 : decode cX8_apply 79 = .ok (.iconst 3, 1) := by decide +kernel
theorem dX8_apply_80 : decode cX8_apply 80 = .ok (.iload_n 1, 1) := by decide +kernel
theorem dX8_apply_81 : decode cX8_apply 81 = .ok (.bipush 97, 2) := by decide +kernel
theorem dX8_apply_83 : decode cX8_apply 83 = .ok (.isub, 1) := by decide +kernel
theorem dX8_apply_84 : decode cX8_apply 84 = .ok (.lload_n 2, 1) := by decide +kernel
theorem dX8_apply_85 : decode cX8_apply 85 = .ok (.lload 4, 2) := by decide +kernel
theorem dX8_apply_87 : decode cX8_apply 87 = .ok (.invokestatic 48, 3) := by decide +kernel
theorem dX8_apply_90 : decode cX8_apply 90 = .ok (.lreturn, 1) := by decide +kernel
theorem dX8_apply_91 : decode cX8_apply 91 = .ok (.iload_n 1, 1) := by decide +kernel
theorem dX8_apply_92 : decode cX8_apply 92 = .ok (.bipush 121, 2) := by decide +kernel
theorem dX8_apply_94 : decode cX8_apply 94 = .ok (.if_icmp .ge 21, 3) := by decide +kernel
theorem dX8_apply_97 : decode cX8_apply 97 = .ok (.aload_n 0, 1) := by decide +kernel
theorem dX8_apply_98 : decode cX8_apply 98 = .ok (.iload_n 1, 1) := by decide +kernel
theorem dX8_apply_99 : decode cX8_apply 99 = .ok (.bipush 103, 2) := by decide +kernel
theorem dX8_apply_101 : decode cX8_apply 101 = .ok (.isub, 1) := by decide +kernel
theorem dX8_apply_102 : decode cX8_apply 102 = .ok (.lload_n 2, 1) := by decide +kernel
theorem dX8_apply_103 : decode cX8_apply 103 = .ok (.l2i, 1) := by decide +kernel
theorem dX8_apply_104 : decode cX8_apply 104 = .ok (.lload 4, 2) := by decide +kernel
theorem dX8_apply_106 : decode cX8_apply 106 = .ok (.l2i, 1) := by decide +kernel
theorem dX8_apply_107 : decode cX8_apply 107 = .ok (.invokevirtual 52, 3) := by decide +kernel
theorem dX8_apply_110 : decode cX8_apply 110 = .ok (.ldc2_w 56, 3) := by decide +kernel
theorem dX8_apply_113 : decode cX8_apply 113 = .ok (.land, 1) := by decide +kernel
theorem dX8_apply_114 : decode cX8_apply 114 = .ok (.lreturn, 1) := by decide +kernel
theorem dX8_apply_115 : decode cX8_apply 115 = .ok (.iload_n 1, 1) := by decide +kernel
theorem dX8_apply_116 : decode cX8_apply 116 = .ok (.sipush 139, 3) := by decide +kernel
theorem dX8_apply_119 : decode cX8_apply 119 = .ok (.if_icmp .ge 15, 3) := by decide +kernel
theorem dX8_apply_122 : decode cX8_apply 122 = .ok (.aload_n 0, 1) := by decide +kernel
theorem dX8_apply_123 : decode cX8_apply 123 = .ok (.iload_n 1, 1) := by decide +kernel
theorem dX8_apply_124 : decode cX8_apply 124 = .ok (.bipush 121, 2) := by decide +kernel
theorem dX8_apply_126 : decode cX8_apply 126 = .ok (.isub, 1) := by decide +kernel
theorem dX8_apply_127 : decode cX8_apply 127 = .ok (.lload_n 2, 1) := by decide +kernel
theorem dX8_apply_128 : decode cX8_apply 128 = .ok (.lload 4, 2) := by decide +kernel
theorem dX8_apply_130 : decode cX8_apply 130 = .ok (.invokevirtual 58, 3) := by decide +kernel
theorem dX8_apply_133 : decode cX8_apply 133 = .ok (.lreturn, 1) := by decide +kernel
theorem dX8_apply_134 : decode cX8_apply 134 = .ok (.iload_n 1, 1) := by decide +kernel
theorem dX8_apply_135 : decode cX8_apply 135 = .ok (.sipush 153, 3) := by decide +kernel
theorem dX8_apply_138 : decode cX8_apply 138 = .ok (.if_icmp .ge 16, 3) := by decide +kernel
theorem dX8_apply_141 : decode cX8_apply 141 = .ok (.iconst 2, 1) := by decide +kernel
theorem dX8_apply_142 : decode cX8_apply 142 = .ok (.iload_n 1, 1) := by decide +kernel
theorem dX8_apply_143 : decode cX8_apply 143 = .ok (.sipush 139, 3) := by decide +kernel
theorem dX8_apply_146 : decode cX8_apply 146 = .ok (.isub, 1) := by decide +kernel
theorem dX8_apply_147 : decode cX8_apply 147 = .ok (.lload_n 2, 1) := by decide +kernel
theorem dX8_apply_148 : decode cX8_apply 148 = .ok (.lload 4, 2) := by decide +kernel
theorem dX8_apply_150 : decode cX8_apply 150 = .ok (.invokestatic 62, 3) := by decide +kernel
theorem dX8_apply_153 : decode cX8_apply 153 = .ok (.lreturn, 1) := by decide +kernel
theorem dX8_apply_154 : decode cX8_apply 154 = .ok (.iload_n 1, 1) := by decide +kernel
theorem dX8_apply_155 : decode cX8_apply 155 = .ok (.sipush 167, 3) := by decide +kernel
theorem dX8_apply_158 : decode cX8_apply 158 = .ok (.if_icmp .ge 16, 3) := by decide +kernel
theorem dX8_apply_161 : decode cX8_apply 161 = .ok (.iconst 3, 1) := by decide +kernel
theorem dX8_apply_162 : decode cX8_apply 162 = .ok (.iload_n 1, 1) := by decide +kernel
theorem dX8_apply_163 : decode cX8_apply 163 = .ok (.sipush 153, 3) := by decide +kernel
theorem dX8_apply_166 : decode cX8_apply 166 = .ok (.isub, 1) := by decide +kernel
theorem dX8_apply_167 : decode cX8_apply 167 = .ok (.lload_n 2, 1) := by decide +kernel
theorem dX8_apply_168 : decode cX8_apply 168 = .ok (.lload 4, 2) := by decide +kernel
theorem dX8_apply_170 : decode cX8_apply 170 = .ok (.invokestatic 62, 3) := by decide +kernel
theorem dX8_apply_173 : decode cX8_apply 173 = .ok (.lreturn, 1) := by decide +kernel
theorem dX8_apply_174 : decode cX8_apply 174 = .ok (.iload_n 1, 1) := by decide +kernel
theorem dX8_apply_175 : decode cX8_apply 175 = .ok (.sipush 178, 3) := by decide +kernel
theorem dX8_apply_178 : decode cX8_apply 178 = .ok (.if_icmp .lt 10, 3) := by decide +kernel
theorem dX8_apply_181 : decode cX8_apply 181 = .ok (.iload_n 1, 1) := by decide +kernel
theorem dX8_apply_182 : decode cX8_apply 182 = .ok (.sipush 192, 3) := by decide +kernel
theorem dX8_apply_185 : decode cX8_apply 185 = .ok (.if_icmp .lt 10, 3) := by decide +kernel
theorem dX8_apply_188 : decode cX8_apply 188 = .ok (.aload_n 0, 1) := by decide +kernel
theorem dX8_apply_189 : decode cX8_apply 189 = .ok (.iload_n 1, 1) := by decide +kernel
theorem dX8_apply_190 : decode cX8_apply 190 = .ok (.lload_n 2, 1) := by decide +kernel
theorem dX8_apply_191 : decode cX8_apply 191 = .ok (.invokevirtual 65, 3) := by decide +kernel
theorem dX8_apply_194 : decode cX8_apply 194 = .ok (.lreturn, 1) := by decide +kernel
theorem dX8_apply_195 : decode cX8_apply 195 = .ok (.iload_n 1, 1) := by decide +kernel
theorem dX8_apply_196 : decode cX8_apply 196 = .ok (.lload_n 2, 1) := by decide +kernel
theorem dX8_apply_197 : decode cX8_apply 197 = .ok (.invokestatic 69, 3) := by decide +kernel
theorem dX8_apply_200 : decode cX8_apply 200 = .ok (.lreturn, 1) := by decide +kernel
noncomputable def fX8_apply (h : pm_H) (a0 : Nat) (p1 : Int32) (p2 : Int64) (p3 : Int64) : Option (Int64 × pm_H) := if pm_kd h a0 = 8 then if 80 ≤ p1 then (if 91 ≤ p1 then (if 97 ≤ p1 then (if 103 ≤ p1 then (if 121 ≤ p1 then (if 139 ≤ p1 then (if 153 ≤ p1 then (if 167 ≤ p1 then (if p1 < 178 then ((fX8_toWhole (pm_setI h a0 0 0) a0 p1 p2).bind fun v11 => some ((v11.1, v11.2))) else (if p1 < 192 then (pm_let (fX8_toFloating p1 p2) fun v14 => some ((v14, pm_setI h a0 0 0))) else ((fX8_toWhole (pm_setI h a0 0 0) a0 p1 p2).bind fun v16 => some ((v16.1, v16.2))))) else ((fX8_floating 3 (p1 - 153) p2 p3).bind fun v18 => some ((v18, pm_setI h a0 0 0)))) else ((fX8_floating 2 (p1 - 139) p2 p3).bind fun v20 => some ((v20, pm_setI h a0 0 0)))) else ((fX8_whole64 (pm_setI h a0 0 0) a0 (p1 - 121) p2 p3).bind fun v22 => some ((v22.1, v22.2)))) else ((fX8_whole32 (pm_setI h a0 0 0) a0 (p1 - 103) p2.toInt32 p3.toInt32).bind fun v24 => some ((v24.1 &&& 4294967295, v24.2)))) else (pm_let (fX8_compareFloating 3 (p1 - 97) p2 p3) fun v26 => some ((v26, pm_setI h a0 0 0)))) else (pm_let (fX8_compareFloating 2 (p1 - 91) p2 p3) fun v28 => some ((v28, pm_setI h a0 0 0)))) else (pm_let (fX8_compareWithoutSign p2 p3) fun v30 => pm_let (fX8_compareWhole (p1 - 80) p2 p3 v30) fun v32 => some ((v32, pm_setI h a0 0 0)))) else (pm_let (fJ13_compare_74951 p2 p3) fun v34 => pm_let (fX8_compareWhole (p1 - 69) p2.toInt32.toInt64 p3.toInt32.toInt64 v34) fun v36 => some ((v36, pm_setI h a0 0 0))) else none
set_option maxHeartbeats 4000000 in
set_option maxRecDepth 100000 in
theorem ctX8_apply {l : Launch} {G : pm_Gl} {h : pm_H} {a0 : Nat} {p1 : Int32} {p2 : Int64} {p3 : Int64} {r : (Int64 × pm_H)} {Qr : Option Value → pm_H → Prop} (hf : fX8_apply h a0 p1 p2 p3 = some r) (q : Qr (some (.long r.1)) r.2) : pm_Ct l G mX8_apply [.ref a0, .int p1, .long p2, .long p3] h 0 0 Qr := by
  refine pm_body pnX8 (Nat.le_of_ble_eq_true rfl) (fun g C X => ?_)
  have C : pm_C g cX8_apply RX8 := C
  show pm_G g 0 [(0, .ref a0), (1, .int p1), (2, .long p2), (4, .long p3)] [] h 0 0
  unfold fX8_apply at hf
  refine pm_aload_n C dX8_apply_0 rfl rfl ?_
  refine pm_iconst (v := 0) C dX8_apply_1 (by decide) ?_
  obtain ⟨k1, hf⟩ := pm_if hf
  refine pm_putI C dX8_apply_2 flX8_31 rfl rfl k1 rfl rfl ?_
  refine pm_iload_n C dX8_apply_5 rfl rfl ?_
  refine pm_bipush (v := 80) C dX8_apply_6 (by decide) ?_
  refine pm_icmp_ge (tgt := 32) C dX8_apply_8 (by decide) (fun c2 => ?_) (fun c2 => ?_)
  · have hf := pm_it hf c2
    refine pm_iload_n C dX8_apply_32 rfl rfl ?_
    refine pm_bipush (v := 91) C dX8_apply_33 (by decide) ?_
    refine pm_icmp_ge (tgt := 55) C dX8_apply_35 (by decide) (fun c3 => ?_) (fun c3 => ?_)
    · have hf := pm_it hf c3
      refine pm_iload_n C dX8_apply_55 rfl rfl ?_
      refine pm_bipush (v := 97) C dX8_apply_56 (by decide) ?_
      refine pm_icmp_ge (tgt := 73) C dX8_apply_58 (by decide) (fun c4 => ?_) (fun c4 => ?_)
      · have hf := pm_it hf c4
        refine pm_iload_n C dX8_apply_73 rfl rfl ?_
        refine pm_bipush (v := 103) C dX8_apply_74 (by decide) ?_
        refine pm_icmp_ge (tgt := 91) C dX8_apply_76 (by decide) (fun c5 => ?_) (fun c5 => ?_)
        · have hf := pm_it hf c5
          refine pm_iload_n C dX8_apply_91 rfl rfl ?_
          refine pm_bipush (v := 121) C dX8_apply_92 (by decide) ?_
          refine pm_icmp_ge (tgt := 115) C dX8_apply_94 (by decide) (fun c6 => ?_) (fun c6 => ?_)
          · have hf := pm_it hf c6
            refine pm_iload_n C dX8_apply_115 rfl rfl ?_
            refine pm_sipush (v := 139) C dX8_apply_116 (by decide) ?_
            refine pm_icmp_ge (tgt := 134) C dX8_apply_119 (by decide) (fun c7 => ?_) (fun c7 => ?_)
            · have hf := pm_it hf c7
              refine pm_iload_n C dX8_apply_134 rfl rfl ?_
              refine pm_sipush (v := 153) C dX8_apply_135 (by decide) ?_
              refine pm_icmp_ge (tgt := 154) C dX8_apply_138 (by decide) (fun c8 => ?_) (fun c8 => ?_)
              · have hf := pm_it hf c8
                refine pm_iload_n C dX8_apply_154 rfl rfl ?_
                refine pm_sipush (v := 167) C dX8_apply_155 (by decide) ?_
                refine pm_icmp_ge (tgt := 174) C dX8_apply_158 (by decide) (fun c9 => ?_) (fun c9 => ?_)
                · have hf := pm_it hf c9
                  refine pm_iload_n C dX8_apply_174 rfl rfl ?_
                  refine pm_sipush (v := 178) C dX8_apply_175 (by decide) ?_
                  refine pm_icmp_lt (tgt := 188) C dX8_apply_178 (by decide) (fun c10 => ?_) (fun c10 => ?_)
                  · have hf := pm_it hf c10
                    refine pm_aload_n C dX8_apply_188 rfl rfl ?_
                    refine pm_iload_n C dX8_apply_189 rfl rfl ?_
                    refine pm_lload_n C dX8_apply_190 rfl rfl ?_
                    obtain ⟨v11, e12, hf⟩ := pm_bd hf
                    refine pm_callV (as := [.int p1, .long p2]) (st := []) C X dX8_apply_191 lnX8_65 myX8_toWhole viX8_toWhole ⟨by decide, by decide⟩ rfl rfl k1 (Nat.le_of_ble_eq_true rfl) (Nat.le_refl _) (Nat.le_refl _) (ctX8_toWhole e12 ?_)
                    show pm_G g 194 [(0, .ref a0), (1, .int p1), (2, .long p2), (4, .long p3)] [.long v11.1] v11.2 0 0
                    cases hf
                    exact pm_lret C X dX8_apply_194 rfl (Nat.le_refl _) (Nat.le_refl _) q
                  · have hf := pm_ie hf c10
                    refine pm_iload_n C dX8_apply_181 rfl rfl ?_
                    refine pm_sipush (v := 192) C dX8_apply_182 (by decide) ?_
                    refine pm_icmp_lt (tgt := 195) C dX8_apply_185 (by decide) (fun c13 => ?_) (fun c13 => ?_)
                    · have hf := pm_it hf c13
                      refine pm_iload_n C dX8_apply_195 rfl rfl ?_
                      refine pm_lload_n C dX8_apply_196 rfl rfl ?_
                      obtain ⟨v14, e15, hf⟩ := pm_lt hf
                      refine pm_callS (as := [.int p1, .long p2]) (st := []) C X dX8_apply_197 lnX8_69 myX8_toFloating stX8_toFloating ⟨by decide, by decide⟩ rfl rfl (Nat.le_of_ble_eq_true rfl) (Nat.le_refl _) (Nat.le_refl _) (ctX8_toFloating e15 ?_)
                      show pm_G g 200 [(0, .ref a0), (1, .int p1), (2, .long p2), (4, .long p3)] [.long v14] (pm_setI h a0 0 0) 0 0
                      cases hf
                      exact pm_lret C X dX8_apply_200 rfl (Nat.le_refl _) (Nat.le_refl _) q
                    · have hf := pm_ie hf c13
                      refine pm_aload_n C dX8_apply_188 rfl rfl ?_
                      refine pm_iload_n C dX8_apply_189 rfl rfl ?_
                      refine pm_lload_n C dX8_apply_190 rfl rfl ?_
                      obtain ⟨v16, e17, hf⟩ := pm_bd hf
                      refine pm_callV (as := [.int p1, .long p2]) (st := []) C X dX8_apply_191 lnX8_65 myX8_toWhole viX8_toWhole ⟨by decide, by decide⟩ rfl rfl k1 (Nat.le_of_ble_eq_true rfl) (Nat.le_refl _) (Nat.le_refl _) (ctX8_toWhole e17 ?_)
                      show pm_G g 194 [(0, .ref a0), (1, .int p1), (2, .long p2), (4, .long p3)] [.long v16.1] v16.2 0 0
                      cases hf
                      exact pm_lret C X dX8_apply_194 rfl (Nat.le_refl _) (Nat.le_refl _) q
                · have hf := pm_ie hf c9
                  refine pm_iconst (v := 3) C dX8_apply_161 (by decide) ?_
                  refine pm_iload_n C dX8_apply_162 rfl rfl ?_
                  refine pm_sipush (v := 153) C dX8_apply_163 (by decide) ?_
                  refine pm_isub C dX8_apply_166 ?_
                  refine pm_lload_n C dX8_apply_167 rfl rfl ?_
                  refine pm_lload C dX8_apply_168 rfl ?_
                  obtain ⟨v18, e19, hf⟩ := pm_bd hf
                  refine pm_callS (as := [.int 3, .int (p1 - 153), .long p2, .long p3]) (st := []) C X dX8_apply_170 lnX8_62 myX8_floating stX8_floating ⟨by decide, by decide⟩ rfl rfl (Nat.le_of_ble_eq_true rfl) (Nat.le_refl _) (Nat.le_refl _) (ctX8_floating e19 ?_)
                  show pm_G g 173 [(0, .ref a0), (1, .int p1), (2, .long p2), (4, .long p3)] [.long v18] (pm_setI h a0 0 0) 0 0
                  cases hf
                  exact pm_lret C X dX8_apply_173 rfl (Nat.le_refl _) (Nat.le_refl _) q
              · have hf := pm_ie hf c8
                refine pm_iconst (v := 2) C dX8_apply_141 (by decide) ?_
                refine pm_iload_n C dX8_apply_142 rfl rfl ?_
                refine pm_sipush (v := 139) C dX8_apply_143 (by decide) ?_
                refine pm_isub C dX8_apply_146 ?_
                refine pm_lload_n C dX8_apply_147 rfl rfl ?_
                refine pm_lload C dX8_apply_148 rfl ?_
                obtain ⟨v20, e21, hf⟩ := pm_bd hf
                refine pm_callS (as := [.int 2, .int (p1 - 139), .long p2, .long p3]) (st := []) C X dX8_apply_150 lnX8_62 myX8_floating stX8_floating ⟨by decide, by decide⟩ rfl rfl (Nat.le_of_ble_eq_true rfl) (Nat.le_refl _) (Nat.le_refl _) (ctX8_floating e21 ?_)
                show pm_G g 153 [(0, .ref a0), (1, .int p1), (2, .long p2), (4, .long p3)] [.long v20] (pm_setI h a0 0 0) 0 0
                cases hf
                exact pm_lret C X dX8_apply_153 rfl (Nat.le_refl _) (Nat.le_refl _) q
            · have hf := pm_ie hf c7
              refine pm_aload_n C dX8_apply_122 rfl rfl ?_
              refine pm_iload_n C dX8_apply_123 rfl rfl ?_
              refine pm_bipush (v := 121) C dX8_apply_124 (by decide) ?_
              refine pm_isub C dX8_apply_126 ?_
              refine pm_lload_n C dX8_apply_127 rfl rfl ?_
              refine pm_lload C dX8_apply_128 rfl ?_
              obtain ⟨v22, e23, hf⟩ := pm_bd hf
              refine pm_callV (as := [.int (p1 - 121), .long p2, .long p3]) (st := []) C X dX8_apply_130 lnX8_58 myX8_whole64 viX8_whole64 ⟨by decide, by decide⟩ rfl rfl k1 (Nat.le_of_ble_eq_true rfl) (Nat.le_refl _) (Nat.le_refl _) (ctX8_whole64 e23 ?_)
              show pm_G g 133 [(0, .ref a0), (1, .int p1), (2, .long p2), (4, .long p3)] [.long v22.1] v22.2 0 0
              cases hf
              exact pm_lret C X dX8_apply_133 rfl (Nat.le_refl _) (Nat.le_refl _) q
          · have hf := pm_ie hf c6
            refine pm_aload_n C dX8_apply_97 rfl rfl ?_
            refine pm_iload_n C dX8_apply_98 rfl rfl ?_
            refine pm_bipush (v := 103) C dX8_apply_99 (by decide) ?_
            refine pm_isub C dX8_apply_101 ?_
            refine pm_lload_n C dX8_apply_102 rfl rfl ?_
            refine pm_l2i C dX8_apply_103 ?_
            refine pm_lload C dX8_apply_104 rfl ?_
            refine pm_l2i C dX8_apply_106 ?_
            obtain ⟨v24, e25, hf⟩ := pm_bd hf
            refine pm_callV (as := [.int (p1 - 103), .int p2.toInt32, .int p3.toInt32]) (st := []) C X dX8_apply_107 lnX8_52 myX8_whole32 viX8_whole32 ⟨by decide, by decide⟩ rfl rfl k1 (Nat.le_of_ble_eq_true rfl) (Nat.le_refl _) (Nat.le_refl _) (ctX8_whole32 e25 ?_)
            show pm_G g 110 [(0, .ref a0), (1, .int p1), (2, .long p2), (4, .long p3)] [.long v24.1] v24.2 0 0
            refine pm_ldc2 C dX8_apply_110 cnX8_56 ?_
            refine pm_land C dX8_apply_113 ?_
            cases hf
            exact pm_lret C X dX8_apply_114 rfl (Nat.le_refl _) (Nat.le_refl _) q
        · have hf := pm_ie hf c5
          refine pm_iconst (v := 3) C dX8_apply_79 (by decide) ?_
          refine pm_iload_n C dX8_apply_80 rfl rfl ?_
          refine pm_bipush (v := 97) C dX8_apply_81 (by decide) ?_
          refine pm_isub C dX8_apply_83 ?_
          refine pm_lload_n C dX8_apply_84 rfl rfl ?_
          refine pm_lload C dX8_apply_85 rfl ?_
          obtain ⟨v26, e27, hf⟩ := pm_lt hf
          refine pm_callS (as := [.int 3, .int (p1 - 97), .long p2, .long p3]) (st := []) C X dX8_apply_87 lnX8_48 myX8_compareFloating stX8_compareFloating ⟨by decide, by decide⟩ rfl rfl (Nat.le_of_ble_eq_true rfl) (Nat.le_refl _) (Nat.le_refl _) (ctX8_compareFloating e27 ?_)
          show pm_G g 90 [(0, .ref a0), (1, .int p1), (2, .long p2), (4, .long p3)] [.long v26] (pm_setI h a0 0 0) 0 0
          cases hf
          exact pm_lret C X dX8_apply_90 rfl (Nat.le_refl _) (Nat.le_refl _) q
      · have hf := pm_ie hf c4
        refine pm_iconst (v := 2) C dX8_apply_61 (by decide) ?_
        refine pm_iload_n C dX8_apply_62 rfl rfl ?_
        refine pm_bipush (v := 91) C dX8_apply_63 (by decide) ?_
        refine pm_isub C dX8_apply_65 ?_
        refine pm_lload_n C dX8_apply_66 rfl rfl ?_
        refine pm_lload C dX8_apply_67 rfl ?_
        obtain ⟨v28, e29, hf⟩ := pm_lt hf
        refine pm_callS (as := [.int 2, .int (p1 - 91), .long p2, .long p3]) (st := []) C X dX8_apply_69 lnX8_48 myX8_compareFloating stX8_compareFloating ⟨by decide, by decide⟩ rfl rfl (Nat.le_of_ble_eq_true rfl) (Nat.le_refl _) (Nat.le_refl _) (ctX8_compareFloating e29 ?_)
        show pm_G g 72 [(0, .ref a0), (1, .int p1), (2, .long p2), (4, .long p3)] [.long v28] (pm_setI h a0 0 0) 0 0
        cases hf
        exact pm_lret C X dX8_apply_72 rfl (Nat.le_refl _) (Nat.le_refl _) q
    · have hf := pm_ie hf c3
      refine pm_iload_n C dX8_apply_38 rfl rfl ?_
      refine pm_bipush (v := 80) C dX8_apply_39 (by decide) ?_
      refine pm_isub C dX8_apply_41 ?_
      refine pm_lload_n C dX8_apply_42 rfl rfl ?_
      refine pm_lload C dX8_apply_43 rfl ?_
      refine pm_lload_n C dX8_apply_45 rfl rfl ?_
      refine pm_lload C dX8_apply_46 rfl ?_
      obtain ⟨v30, e31, hf⟩ := pm_lt hf
      refine pm_callS (as := [.long p2, .long p3]) (st := [.long p3, .long p2, .int (p1 - 80)]) C X dX8_apply_48 lnX8_45 myX8_compareWithoutSign stX8_compareWithoutSign ⟨by decide, by decide⟩ rfl rfl (Nat.le_of_ble_eq_true rfl) (Nat.le_refl _) (Nat.le_refl _) (ctX8_compareWithoutSign e31 ?_)
      show pm_G g 51 [(0, .ref a0), (1, .int p1), (2, .long p2), (4, .long p3)] [.int v30, .long p3, .long p2, .int (p1 - 80)] (pm_setI h a0 0 0) 0 0
      obtain ⟨v32, e33, hf⟩ := pm_lt hf
      refine pm_callS (as := [.int (p1 - 80), .long p2, .long p3, .int v30]) (st := []) C X dX8_apply_51 lnX8_41 myX8_compareWhole stX8_compareWhole ⟨by decide, by decide⟩ rfl rfl (Nat.le_of_ble_eq_true rfl) (Nat.le_refl _) (Nat.le_refl _) (ctX8_compareWhole e33 ?_)
      show pm_G g 54 [(0, .ref a0), (1, .int p1), (2, .long p2), (4, .long p3)] [.long v32] (pm_setI h a0 0 0) 0 0
      cases hf
      exact pm_lret C X dX8_apply_54 rfl (Nat.le_refl _) (Nat.le_refl _) q
  · have hf := pm_ie hf c2
    refine pm_iload_n C dX8_apply_11 rfl rfl ?_
    refine pm_bipush (v := 69) C dX8_apply_12 (by decide) ?_
    refine pm_isub C dX8_apply_14 ?_
    refine pm_lload_n C dX8_apply_15 rfl rfl ?_
    refine pm_l2i C dX8_apply_16 ?_
    refine pm_i2l C dX8_apply_17 ?_
    refine pm_lload C dX8_apply_18 rfl ?_
    refine pm_l2i C dX8_apply_20 ?_
    refine pm_i2l C dX8_apply_21 ?_
    refine pm_lload_n C dX8_apply_22 rfl rfl ?_
    refine pm_lload C dX8_apply_23 rfl ?_
    obtain ⟨v34, e35, hf⟩ := pm_lt hf
    refine pm_callS (as := [.long p2, .long p3]) (st := [.long p3.toInt32.toInt64, .long p2.toInt32.toInt64, .int (p1 - 69)]) C X dX8_apply_25 lnX8_35 myJ13_compare_74951 stJ13_compare_74951 ⟨by decide, by decide⟩ rfl rfl (Nat.le_of_ble_eq_true rfl) (Nat.le_refl _) (Nat.le_refl _) (ctJ13_compare_74951 e35 ?_)
    show pm_G g 28 [(0, .ref a0), (1, .int p1), (2, .long p2), (4, .long p3)] [.int v34, .long p3.toInt32.toInt64, .long p2.toInt32.toInt64, .int (p1 - 69)] (pm_setI h a0 0 0) 0 0
    obtain ⟨v36, e37, hf⟩ := pm_lt hf
    refine pm_callS (as := [.int (p1 - 69), .long p2.toInt32.toInt64, .long p3.toInt32.toInt64, .int v34]) (st := []) C X dX8_apply_28 lnX8_41 myX8_compareWhole stX8_compareWhole ⟨by decide, by decide⟩ rfl rfl (Nat.le_of_ble_eq_true rfl) (Nat.le_refl _) (Nat.le_refl _) (ctX8_compareWhole e37 ?_)
    show pm_G g 31 [(0, .ref a0), (1, .int p1), (2, .long p2), (4, .long p3)] [.long v36] (pm_setI h a0 0 0) 0 0
    cases hf
    exact pm_lret C X dX8_apply_31 rfl (Nat.le_refl _) (Nat.le_refl _) q
set_option maxHeartbeats 4000000 in
set_option maxRecDepth 100000 in
theorem kpX8_apply {h : pm_H} {a0 : Nat} {p1 : Int32} {p2 : Int64} {p3 : Int64} {r : (Int64 × pm_H)} (hf : fX8_apply h a0 p1 p2 p3 = some r) : pm_S3 r.2 h := by
  unfold fX8_apply at hf
  have K0 := pm_S3.rf h
  obtain ⟨k1, hf⟩ := pm_if hf
  by_cases c2 : 80 ≤ p1
  · have hf := pm_it hf c2
    by_cases c3 : 91 ≤ p1
    · have hf := pm_it hf c3
      by_cases c4 : 97 ≤ p1
      · have hf := pm_it hf c4
        by_cases c5 : 103 ≤ p1
        · have hf := pm_it hf c5
          by_cases c6 : 121 ≤ p1
          · have hf := pm_it hf c6
            by_cases c7 : 139 ≤ p1
            · have hf := pm_it hf c7
              by_cases c8 : 153 ≤ p1
              · have hf := pm_it hf c8
                by_cases c9 : 167 ≤ p1
                · have hf := pm_it hf c9
                  by_cases c10 : p1 < 178
                  · have hf := pm_it hf c10
                    obtain ⟨v11, e12, hf⟩ := pm_bd hf
                    have K13 := pm_S3.trans (kpX8_toWhole e12) K0
                    cases hf
                    exact K13
                  · have hf := pm_ie hf c10
                    by_cases c14 : p1 < 192
                    · have hf := pm_it hf c14
                      obtain ⟨v15, e16, hf⟩ := pm_lt hf
                      cases hf
                      exact K0
                    · have hf := pm_ie hf c14
                      obtain ⟨v17, e18, hf⟩ := pm_bd hf
                      have K19 := pm_S3.trans (kpX8_toWhole e18) K0
                      cases hf
                      exact K19
                · have hf := pm_ie hf c9
                  obtain ⟨v20, e21, hf⟩ := pm_bd hf
                  cases hf
                  exact K0
              · have hf := pm_ie hf c8
                obtain ⟨v22, e23, hf⟩ := pm_bd hf
                cases hf
                exact K0
            · have hf := pm_ie hf c7
              obtain ⟨v24, e25, hf⟩ := pm_bd hf
              have K26 := pm_S3.trans (kpX8_whole64 e25) K0
              cases hf
              exact K26
          · have hf := pm_ie hf c6
            obtain ⟨v27, e28, hf⟩ := pm_bd hf
            have K29 := pm_S3.trans (kpX8_whole32 e28) K0
            cases hf
            exact K29
        · have hf := pm_ie hf c5
          obtain ⟨v30, e31, hf⟩ := pm_lt hf
          cases hf
          exact K0
      · have hf := pm_ie hf c4
        obtain ⟨v32, e33, hf⟩ := pm_lt hf
        cases hf
        exact K0
    · have hf := pm_ie hf c3
      obtain ⟨v34, e35, hf⟩ := pm_lt hf
      obtain ⟨v36, e37, hf⟩ := pm_lt hf
      cases hf
      exact K0
  · have hf := pm_ie hf c2
    obtain ⟨v38, e39, hf⟩ := pm_lt hf
    obtain ⟨v40, e41, hf⟩ := pm_lt hf
    cases hf
    exact K0
theorem dX10_atMemory_0 : decode cX10_atMemory 0 = .ok (.iload_n 2, 1) := by decide +kernel
theorem dX10_atMemory_1 : decode cX10_atMemory 1 = .ok (.bipush 63, 2) := by decide +kernel
theorem dX10_atMemory_3 : decode cX10_atMemory 3 = .ok (.if_icmp .ne 16, 3) := by decide +kernel
theorem dX10_atMemory_6 : decode cX10_atMemory 6 = .ok (.aload_n 0, 1) := by decide +kernel
theorem dX10_atMemory_7 : decode cX10_atMemory 7 = .ok (.getfield 21, 3) := by decide +kernel
theorem dX10_atMemory_10 : decode cX10_atMemory 10 = .ok (.getfield 142, 3) := by decide +kernel
theorem dX10_atMemory_13 : decode cX10_atMemory 13 = .ok (.iload_n 1, 1) := by decide +kernel
theorem dX10_atMemory_14 : decode cX10_atMemory 14 = .ok (.invokestatic 104, 3) := by decide +kernel
theorem dX10_atMemory_17 : decode cX10_atMemory 17 = .ok (.i2l, 1) := by decide +kernel
theorem dX10_atMemory_18 : decode cX10_atMemory 18 = .ok (.lreturn, 1) := by decide +kernel
theorem dX10_atMemory_19 : decode cX10_atMemory 19 = .ok (.iload_n 2, 1) := by decide +kernel
theorem dX10_atMemory_20 : decode cX10_atMemory 20 = .ok (.bipush 64, 2) := by decide +kernel
theorem dX10_atMemory_22 : decode cX10_atMemory 22 = .ok (.if_icmp .ne 19, 3) := by decide +kernel
theorem dX10_atMemory_25 : decode cX10_atMemory 25 = .ok (.aload_n 0, 1) := by decide +kernel
theorem dX10_atMemory_26 : decode cX10_atMemory 26 = .ok (.getfield 21, 3) := by decide +kernel
theorem dX10_atMemory_29 : decode cX10_atMemory 29 = .ok (.iload_n 1, 1) := by decide +kernel
theorem dX10_atMemory_30 : decode cX10_atMemory 30 = .ok (.lload 4, 2) := by decide +kernel
theorem dX10_atMemory_32 : decode cX10_atMemory 32 = .ok (.invokevirtual 289, 3) := by decide +kernel
theorem dX10_atMemory_35 : decode cX10_atMemory 35 = .ok (.i2l, 1) := by decide +kernel
theorem dX10_atMemory_36 : decode cX10_atMemory 36 = .ok (.ldc2_w 293, 3) := by decide +kernel
theorem dX10_atMemory_39 : decode cX10_atMemory 39 = .ok (.land, 1) := by decide +kernel
theorem dX10_atMemory_40 : decode cX10_atMemory 40 = .ok (.lreturn, 1) := by decide +kernel
theorem dX10_atMemory_41 : decode cX10_atMemory 41 = .ok (.lload 4, 2) := by decide +kernel
theorem dX10_atMemory_43 : decode cX10_atMemory 43 = .ok (.iload_n 3, 1) := by decide +kernel
theorem dX10_atMemory_44 : decode cX10_atMemory 44 = .ok (.i2l, 1) := by decide +kernel
theorem dX10_atMemory_45 : decode cX10_atMemory 45 = .ok (.ldc2_w 293, 3) := by decide +kernel
theorem dX10_atMemory_48 : decode cX10_atMemory 48 = .ok (.land, 1) := by decide +kernel
theorem dX10_atMemory_49 : decode cX10_atMemory 49 = .ok (.ladd, 1) := by decide +kernel
theorem dX10_atMemory_50 : decode cX10_atMemory 50 = .ok (.lstore 8, 2) := by decide +kernel
theorem dX10_atMemory_52 : decode cX10_atMemory 52 = .ok (.aload_n 0, 1) := by decide +kernel
theorem dX10_atMemory_53 : decode cX10_atMemory 53 = .ok (.getfield 21, 3) := by decide +kernel
theorem dX10_atMemory_56 : decode cX10_atMemory 56 = .ok (.iload_n 1, 1) := by decide +kernel
theorem dX10_atMemory_57 : decode cX10_atMemory 57 = .ok (.lload 8, 2) := by decide +kernel
theorem dX10_atMemory_59 : decode cX10_atMemory 59 = .ok (.lconst 1, 1) := by decide +kernel
theorem dX10_atMemory_60 : decode cX10_atMemory 60 = .ok (.iload_n 2, 1) := by decide +kernel
theorem dX10_atMemory_61 : decode cX10_atMemory 61 = .ok (.invokestatic 295, 3) := by decide +kernel
theorem dX10_atMemory_64 : decode cX10_atMemory 64 = .ok (.lshl, 1) := by decide +kernel
theorem dX10_atMemory_65 : decode cX10_atMemory 65 = .ok (.invokevirtual 298, 3) := by decide +kernel
theorem dX10_atMemory_68 : decode cX10_atMemory 68 = .ok (.ifCond .ne 10, 3) := by decide +kernel
theorem dX10_atMemory_71 : decode cX10_atMemory 71 = .ok (.aload_n 0, 1) := by decide +kernel
theorem dX10_atMemory_72 : decode cX10_atMemory 72 = .ok (.iconst 5, 1) := by decide +kernel
theorem dX10_atMemory_73 : decode cX10_atMemory 73 = .ok (.putfield 263, 3) := by decide +kernel
theorem dX10_atMemory_76 : decode cX10_atMemory 76 = .ok (.lconst 0, 1) := by decide +kernel
theorem dX10_atMemory_77 : decode cX10_atMemory 77 = .ok (.lreturn, 1) := by decide +kernel
theorem dX10_atMemory_78 : decode cX10_atMemory 78 = .ok (.iload_n 2, 1) := by decide +kernel
theorem dX10_atMemory_79 : decode cX10_atMemory 79 = .ok (.bipush 54, 2) := by decide +kernel
theorem dX10_atMemory_81 : decode cX10_atMemory 81 = .ok (.if_icmp .ge 15, 3) := by decide +kernel
theorem dX10_atMemory_84 : decode cX10_atMemory 84 = .ok (.aload_n 0, 1) := by decide +kernel
theorem dX10_atMemory_85 : decode cX10_atMemory 85 = .ok (.getfield 21, 3) := by decide +kernel
theorem dX10_atMemory_88 : decode cX10_atMemory 88 = .ok (.iload_n 1, 1) := by decide +kernel
theorem dX10_atMemory_89 : decode cX10_atMemory 89 = .ok (.iload_n 2, 1) := by decide +kernel
theorem dX10_atMemory_90 : decode cX10_atMemory 90 = .ok (.lload 8, 2) := by decide +kernel
theorem dX10_atMemory_92 : decode cX10_atMemory 92 = .ok (.invokevirtual 302, 3) := by decide +kernel
theorem dX10_atMemory_95 : decode cX10_atMemory 95 = .ok (.lreturn, 1) := by decide +kernel
theorem dX10_atMemory_96 : decode cX10_atMemory 96 = .ok (.aload_n 0, 1) := by decide +kernel
theorem dX10_atMemory_97 : decode cX10_atMemory 97 = .ok (.getfield 21, 3) := by decide +kernel
theorem dX10_atMemory_100 : decode cX10_atMemory 100 = .ok (.iload_n 1, 1) := by decide +kernel
theorem dX10_atMemory_101 : decode cX10_atMemory 101 = .ok (.iload_n 2, 1) := by decide +kernel
theorem dX10_atMemory_102 : decode cX10_atMemory 102 = .ok (.lload 8, 2) := by decide +kernel
theorem dX10_atMemory_104 : decode cX10_atMemory 104 = .ok (.lload 6, 2) := by decide +kernel
theorem dX10_atMemory_106 : decode cX10_atMemory 106 = .ok (.invokevirtual 306, 3) := by decide +kernel
theorem dX10_atMemory_109 : decode cX10_atMemory 109 = .ok (.lconst 0, 1) := by decide +kernel
theorem dX10_atMemory_110 : decode cX10_atMemory 110 = .ok (.lreturn, 1) := by decide +kernel
noncomputable def fX10_atMemory_b35 (h : pm_H) (s0 : Int32) : Option (Int64 × pm_H) := some ((s0.toInt64 &&& 4294967295, h))
noncomputable def fX10_atMemory_b0 (h : pm_H) (x0 : Nat) (x1 : Int32) (x2 : Int32) (x3 : Int32) (x4 : Int64) (x6 : Int64) : Option (Int64 × pm_H) := if x2 = 63 then (if pm_kd h x0 = 10 then (pm_R h x0 5).bind fun v27 => if pm_kd h v27 = 6 then (pm_R h v27 2).bind fun v30 => (fX12_item h v30 x1).bind fun v32 => some ((v32.toInt64, h)) else none else none) else (if x2 = 64 then (if pm_kd h x0 = 10 then (pm_R h x0 5).bind fun v21 => if pm_kd h v21 = 6 then (fX6_grow h v21 x1 x4).bind fun v24 => fX10_atMemory_b35 v24.2 v24.1 else none else none) else (pm_let (x4 + (x3.toInt64 &&& 4294967295)) fun y3 => if pm_kd h x0 = 10 then (pm_R h x0 5).bind fun v6 => (fX6_logOfWidth x2).bind fun v8 => if pm_kd h v6 = 6 then (fX6_reaches h v6 x1 y3 ((1 : Int64) <<< (v8.toInt64 &&& 63))).bind fun v11 => if v11 = 0 then (some ((0, pm_setI h x0 0 5))) else (if 54 ≤ x2 then ((fX6_save h v6 x1 x2 y3 x6).bind fun v15 => some ((0, v15))) else ((fX6_load h v6 x1 x2 y3).bind fun v18 => some ((v18, h)))) else none else none))
noncomputable def fX10_atMemory (h : pm_H) (a0 : Nat) (p1 : Int32) (p2 : Int32) (p3 : Int32) (p4 : Int64) (p5 : Int64) : Option (Int64 × pm_H) := fX10_atMemory_b0 h a0 p1 p2 p3 p4 p5
set_option maxHeartbeats 4000000 in
set_option maxRecDepth 100000 in
theorem moX10_atMemory_b35 {h : pm_H} {s0 : Int32} {r : (Int64 × pm_H)} (hf : fX10_atMemory_b35 h s0 = some r) : pm_Le h r.2 := by
  unfold fX10_atMemory_b35 at hf
  have K0 := pm_S3.rf h
  have hf := Option.some.inj hf
  subst hf
  exact pm_S3.le K0
set_option maxHeartbeats 4000000 in
set_option maxRecDepth 100000 in
theorem moX10_atMemory_b0 {h : pm_H} {x0 : Nat} {x1 : Int32} {x2 : Int32} {x3 : Int32} {x4 : Int64} {x6 : Int64} {r : (Int64 × pm_H)} (hf : fX10_atMemory_b0 h x0 x1 x2 x3 x4 x6 = some r) : pm_Le h r.2 := by
  unfold fX10_atMemory_b0 at hf
  have K0 := pm_S3.rf h
  by_cases c1 : x2 = 63
  · have hf := pm_it hf c1
    obtain ⟨k2, hf⟩ := pm_if hf
    obtain ⟨v3, e4, hf⟩ := pm_bd hf
    obtain ⟨k5, hf⟩ := pm_if hf
    obtain ⟨v6, e7, hf⟩ := pm_bd hf
    obtain ⟨v8, e9, hf⟩ := pm_bd hf
    have hf := Option.some.inj hf
    subst hf
    exact pm_S3.le K0
  · have hf := pm_ie hf c1
    by_cases c10 : x2 = 64
    · have hf := pm_it hf c10
      obtain ⟨k11, hf⟩ := pm_if hf
      obtain ⟨v12, e13, hf⟩ := pm_bd hf
      obtain ⟨k14, hf⟩ := pm_if hf
      obtain ⟨v15, e16, hf⟩ := pm_bd hf
      exact ((pm_S3.le K0).trans (moX6_grow e16)).trans (moX10_atMemory_b35 hf)
    · have hf := pm_ie hf c10
      obtain ⟨y17, e18, hf⟩ := pm_lt hf
      obtain ⟨k19, hf⟩ := pm_if hf
      obtain ⟨v20, e21, hf⟩ := pm_bd hf
      obtain ⟨v22, e23, hf⟩ := pm_bd hf
      obtain ⟨k24, hf⟩ := pm_if hf
      obtain ⟨v25, e26, hf⟩ := pm_bd hf
      by_cases c27 : v25 = 0
      · have hf := pm_it hf c27
        have hf := Option.some.inj hf
        subst hf
        exact pm_S3.le (pm_S3I K0)
      · have hf := pm_ie hf c27
        by_cases c28 : 54 ≤ x2
        · have hf := pm_it hf c28
          obtain ⟨v29, e30, hf⟩ := pm_bd hf
          have K31 := pm_S3.trans (kpX6_save e30) K0
          have hf := Option.some.inj hf
          subst hf
          exact pm_S3.le K31
        · have hf := pm_ie hf c28
          obtain ⟨v32, e33, hf⟩ := pm_bd hf
          have hf := Option.some.inj hf
          subst hf
          exact pm_S3.le K0
set_option maxHeartbeats 4000000 in
set_option maxRecDepth 100000 in
theorem moX10_atMemory {h : pm_H} {a0 : Nat} {p1 : Int32} {p2 : Int32} {p3 : Int32} {p4 : Int64} {p5 : Int64} {r : (Int64 × pm_H)} (hf : fX10_atMemory h a0 p1 p2 p3 p4 p5 = some r) : pm_Le h r.2 := by
  unfold fX10_atMemory at hf
  have K0 := pm_S3.rf h
  exact (pm_S3.le K0).trans (moX10_atMemory_b0 hf)
set_option maxHeartbeats 4000000 in
set_option maxRecDepth 100000 in
theorem bX10_atMemory_35 {g : pm_Gm} {l : Launch} {G : pm_Gl} {Qr : Option Value → pm_H → Prop} (C : pm_C g cX10_atMemory RX10) {h0 h : pm_H} {s0 : Int32} {r : (Int64 × pm_H)} (X : pm_X g l G mX10_atMemory (pm_sz r.2 - pm_sz h0) (pm_us r.2 - pm_us h0) Qr) (m0 : pm_Le h0 h) (hf : fX10_atMemory_b35 h s0 = some r) (q : Qr (some (.long r.1)) r.2) : pm_G g 35 [] [.int s0] h (pm_sz h - pm_sz h0) (pm_us h - pm_us h0) := by
  have le0 := moX10_atMemory_b35 hf
  have kc1 := Nat.sub_le_sub_right le0.1 (pm_sz h0)
  have kc2 := Nat.sub_le_sub_right le0.2 (pm_us h0)
  have K0 := pm_S3.rf h
  unfold fX10_atMemory_b35 at hf
  refine pm_i2l C dX10_atMemory_35 ?_
  refine pm_ldc2 C dX10_atMemory_36 cnX10_293 ?_
  refine pm_land C dX10_atMemory_39 ?_
  have hf := Option.some.inj hf
  subst hf
  exact pm_lret C X dX10_atMemory_40 rfl kc1 kc2 q
set_option maxHeartbeats 4000000 in
set_option maxRecDepth 100000 in
theorem bX10_atMemory_0 {g : pm_Gm} {l : Launch} {G : pm_Gl} {Qr : Option Value → pm_H → Prop} (C : pm_C g cX10_atMemory RX10) {h0 h : pm_H} {x0 : Nat} {x1 : Int32} {x2 : Int32} {x3 : Int32} {x4 : Int64} {x6 : Int64} {r : (Int64 × pm_H)} (X : pm_X g l G mX10_atMemory (pm_sz r.2 - pm_sz h0) (pm_us r.2 - pm_us h0) Qr) (m0 : pm_Le h0 h) (hf : fX10_atMemory_b0 h x0 x1 x2 x3 x4 x6 = some r) (q : Qr (some (.long r.1)) r.2) : pm_G g 0 [(0, .ref x0), (1, .int x1), (2, .int x2), (3, .int x3), (4, .long x4), (6, .long x6)] [] h (pm_sz h - pm_sz h0) (pm_us h - pm_us h0) := by
  have le0 := moX10_atMemory_b0 hf
  have kc1 := Nat.sub_le_sub_right le0.1 (pm_sz h0)
  have kc2 := Nat.sub_le_sub_right le0.2 (pm_us h0)
  have K0 := pm_S3.rf h
  unfold fX10_atMemory_b0 at hf
  refine pm_iload_n C dX10_atMemory_0 rfl rfl ?_
  refine pm_bipush (v := 63) C dX10_atMemory_1 (by decide) ?_
  refine pm_icmp_ne (tgt := 19) C dX10_atMemory_3 (by decide) (fun c1 => ?_) (fun c1 => ?_)
  · have hf := pm_ie hf c1
    refine pm_iload_n C dX10_atMemory_19 rfl rfl ?_
    refine pm_bipush (v := 64) C dX10_atMemory_20 (by decide) ?_
    refine pm_icmp_ne (tgt := 41) C dX10_atMemory_22 (by decide) (fun c2 => ?_) (fun c2 => ?_)
    · have hf := pm_ie hf c2
      refine pm_lload C dX10_atMemory_41 rfl ?_
      refine pm_iload_n C dX10_atMemory_43 rfl rfl ?_
      refine pm_i2l C dX10_atMemory_44 ?_
      refine pm_ldc2 C dX10_atMemory_45 cnX10_293 ?_
      refine pm_land C dX10_atMemory_48 ?_
      refine pm_ladd C dX10_atMemory_49 ?_
      obtain ⟨y3, e4, hf⟩ := pm_lt hf
      refine pm_topL e4 ?_
      refine pm_lstore (lv' := [(8, .long y3), (0, .ref x0), (1, .int x1), (2, .int x2), (3, .int x3), (4, .long x4), (6, .long x6)]) C dX10_atMemory_50 (pm_nl X (by decide)) rfl ?_
      refine pm_aload_n C dX10_atMemory_52 rfl rfl ?_
      obtain ⟨k5, hf⟩ := pm_if hf
      obtain ⟨v6, e7, hf⟩ := pm_bd hf
      refine pm_getR C dX10_atMemory_53 flX10_21 rfl k5 e7 ?_
      refine pm_iload_n C dX10_atMemory_56 rfl rfl ?_
      refine pm_lload C dX10_atMemory_57 rfl ?_
      refine pm_lconst (v := 1) C dX10_atMemory_59 (by decide) ?_
      refine pm_iload_n C dX10_atMemory_60 rfl rfl ?_
      obtain ⟨v8, e9, hf⟩ := pm_bd hf
      refine pm_callS (as := [.int x2]) (st := [.long 1, .long y3, .int x1, .ref v6]) C X dX10_atMemory_61 lnX10_295 myX6_logOfWidth stX6_logOfWidth ⟨by decide, by decide⟩ rfl rfl (Nat.le_of_ble_eq_true rfl) kc1 kc2 (ctX6_logOfWidth e9 ?_)
      show pm_G g 64 [(8, .long y3), (0, .ref x0), (1, .int x1), (2, .int x2), (3, .int x3), (4, .long x4), (6, .long x6)] [.int v8, .long 1, .long y3, .int x1, .ref v6] h (pm_sz h - pm_sz h0) (pm_us h - pm_us h0)
      refine pm_lshl C dX10_atMemory_64 ?_
      obtain ⟨k10, hf⟩ := pm_if hf
      obtain ⟨v11, e12, hf⟩ := pm_bd hf
      refine pm_callV (as := [.int x1, .long y3, .long ((1 : Int64) <<< (v8.toInt64 &&& 63))]) (st := []) C X dX10_atMemory_65 lnX10_298 myX6_reaches viX6_reaches ⟨by decide, by decide⟩ rfl rfl k10 (Nat.le_of_ble_eq_true rfl) kc1 kc2 (ctX6_reaches e12 ?_)
      show pm_G g 68 [(8, .long y3), (0, .ref x0), (1, .int x1), (2, .int x2), (3, .int x3), (4, .long x4), (6, .long x6)] [.int v11] h (pm_sz h - pm_sz h0) (pm_us h - pm_us h0)
      refine pm_if_ne (tgt := 78) C dX10_atMemory_68 (by decide) (fun c13 => ?_) (fun c13 => ?_)
      · have hf := pm_ie hf c13
        refine pm_iload_n C dX10_atMemory_78 rfl rfl ?_
        refine pm_bipush (v := 54) C dX10_atMemory_79 (by decide) ?_
        refine pm_icmp_ge (tgt := 96) C dX10_atMemory_81 (by decide) (fun c14 => ?_) (fun c14 => ?_)
        · have hf := pm_it hf c14
          refine pm_aload_n C dX10_atMemory_96 rfl rfl ?_
          refine pm_getR C dX10_atMemory_97 flX10_21 rfl k5 e7 ?_
          refine pm_iload_n C dX10_atMemory_100 rfl rfl ?_
          refine pm_iload_n C dX10_atMemory_101 rfl rfl ?_
          refine pm_lload C dX10_atMemory_102 rfl ?_
          refine pm_lload C dX10_atMemory_104 rfl ?_
          obtain ⟨v15, e16, hf⟩ := pm_bd hf
          refine pm_callV (as := [.int x1, .int x2, .long y3, .long x6]) (st := []) C X dX10_atMemory_106 lnX10_306 myX6_save viX6_save ⟨by decide, by decide⟩ rfl rfl k10 (Nat.le_of_ble_eq_true rfl) kc1 kc2 (ctX6_save e16 ?_)
          have K17 := pm_S3.trans (kpX6_save e16) K0
          show pm_G g 109 [(8, .long y3), (0, .ref x0), (1, .int x1), (2, .int x2), (3, .int x3), (4, .long x4), (6, .long x6)] [] v15 (pm_sz h - pm_sz h0) (pm_us h - pm_us h0)
          refine pm_lconst (v := 0) C dX10_atMemory_109 (by decide) ?_
          have hf := Option.some.inj hf
          subst hf
          exact pm_lret C X dX10_atMemory_110 rfl kc1 kc2 q
        · have hf := pm_ie hf c14
          refine pm_aload_n C dX10_atMemory_84 rfl rfl ?_
          refine pm_getR C dX10_atMemory_85 flX10_21 rfl k5 e7 ?_
          refine pm_iload_n C dX10_atMemory_88 rfl rfl ?_
          refine pm_iload_n C dX10_atMemory_89 rfl rfl ?_
          refine pm_lload C dX10_atMemory_90 rfl ?_
          obtain ⟨v18, e19, hf⟩ := pm_bd hf
          refine pm_callV (as := [.int x1, .int x2, .long y3]) (st := []) C X dX10_atMemory_92 lnX10_302 myX6_load viX6_load ⟨by decide, by decide⟩ rfl rfl k10 (Nat.le_of_ble_eq_true rfl) kc1 kc2 (ctX6_load e19 ?_)
          show pm_G g 95 [(8, .long y3), (0, .ref x0), (1, .int x1), (2, .int x2), (3, .int x3), (4, .long x4), (6, .long x6)] [.long v18] h (pm_sz h - pm_sz h0) (pm_us h - pm_us h0)
          have hf := Option.some.inj hf
          subst hf
          exact pm_lret C X dX10_atMemory_95 rfl kc1 kc2 q
      · have hf := pm_it hf c13
        refine pm_aload_n C dX10_atMemory_71 rfl rfl ?_
        refine pm_iconst (v := 5) C dX10_atMemory_72 (by decide) ?_
        refine pm_putI C dX10_atMemory_73 flX10_263 rfl rfl k5 rfl rfl ?_
        refine pm_lconst (v := 0) C dX10_atMemory_76 (by decide) ?_
        have hf := Option.some.inj hf
        subst hf
        exact pm_lret C X dX10_atMemory_77 rfl kc1 kc2 q
    · have hf := pm_it hf c2
      refine pm_aload_n C dX10_atMemory_25 rfl rfl ?_
      obtain ⟨k20, hf⟩ := pm_if hf
      obtain ⟨v21, e22, hf⟩ := pm_bd hf
      refine pm_getR C dX10_atMemory_26 flX10_21 rfl k20 e22 ?_
      refine pm_iload_n C dX10_atMemory_29 rfl rfl ?_
      refine pm_lload C dX10_atMemory_30 rfl ?_
      obtain ⟨k23, hf⟩ := pm_if hf
      obtain ⟨v24, e25, hf⟩ := pm_bd hf
      refine pm_callV (as := [.int x1, .long x4]) (st := []) C X dX10_atMemory_32 lnX10_289 myX6_grow viX6_grow ⟨by decide, by decide⟩ rfl rfl k23 (Nat.le_of_ble_eq_true rfl) (pa_le1 K0 m0 (moX6_grow e25) (moX10_atMemory_b35 hf)) (pa_le2 K0 m0 (moX6_grow e25) (moX10_atMemory_b35 hf)) (ctX6_grow e25 ?_)
      show pm_G g 35 [(0, .ref x0), (1, .int x1), (2, .int x2), (3, .int x3), (4, .long x4), (6, .long x6)] [.int v24.1] v24.2 (pm_sz h - pm_sz h0 + (pm_sz v24.2 - pm_sz h)) (pm_us h - pm_us h0 + (pm_us v24.2 - pm_us h))
      refine pa_fin K0 m0 (moX6_grow e25) ?_
      exact pm_sub [] rfl (bX10_atMemory_35 C X ((m0.trans (pm_S3.le K0)).trans (moX6_grow e25)) hf q)
  · have hf := pm_it hf c1
    refine pm_aload_n C dX10_atMemory_6 rfl rfl ?_
    obtain ⟨k26, hf⟩ := pm_if hf
    obtain ⟨v27, e28, hf⟩ := pm_bd hf
    refine pm_getR C dX10_atMemory_7 flX10_21 rfl k26 e28 ?_
    obtain ⟨k29, hf⟩ := pm_if hf
    obtain ⟨v30, e31, hf⟩ := pm_bd hf
    refine pm_getR C dX10_atMemory_10 flX10_142 rfl k29 e31 ?_
    refine pm_iload_n C dX10_atMemory_13 rfl rfl ?_
    obtain ⟨v32, e33, hf⟩ := pm_bd hf
    refine pm_callS (as := [.ref v30, .int x1]) (st := []) C X dX10_atMemory_14 lnX10_104 myX12_item stX12_item ⟨by decide, by decide⟩ rfl rfl (Nat.le_of_ble_eq_true rfl) kc1 kc2 (ctX12_item e33 ?_)
    show pm_G g 17 [(0, .ref x0), (1, .int x1), (2, .int x2), (3, .int x3), (4, .long x4), (6, .long x6)] [.int v32] h (pm_sz h - pm_sz h0) (pm_us h - pm_us h0)
    refine pm_i2l C dX10_atMemory_17 ?_
    have hf := Option.some.inj hf
    subst hf
    exact pm_lret C X dX10_atMemory_18 rfl kc1 kc2 q
set_option maxHeartbeats 4000000 in
set_option maxRecDepth 100000 in
theorem ctX10_atMemory {l : Launch} {G : pm_Gl} {h : pm_H} {a0 : Nat} {p1 : Int32} {p2 : Int32} {p3 : Int32} {p4 : Int64} {p5 : Int64} {r : (Int64 × pm_H)} {Qr : Option Value → pm_H → Prop} (hf : fX10_atMemory h a0 p1 p2 p3 p4 p5 = some r) (q : Qr (some (.long r.1)) r.2) : pm_Ct l G mX10_atMemory [.ref a0, .int p1, .int p2, .int p3, .long p4, .long p5] h (pm_sz r.2 - pm_sz h) (pm_us r.2 - pm_us h) Qr := by
  refine pm_body pnX10 (Nat.le_of_ble_eq_true rfl) (fun g C X => ?_)
  have C : pm_C g cX10_atMemory RX10 := C
  show pm_G g 0 [(0, .ref a0), (1, .int p1), (2, .int p2), (3, .int p3), (4, .long p4), (6, .long p5)] [] h 0 0
  unfold fX10_atMemory at hf
  exact pa_start (pm_sub [0, 1, 2, 3, 4, 5] rfl (bX10_atMemory_0 C X (pm_Le.rf h) hf q))
