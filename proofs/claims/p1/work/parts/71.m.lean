theorem dX8_floating_0 : decode cX8_floating 0 = .ok (.iload_n 0, 1) := by decide +kernel
theorem dX8_floating_1 : decode cX8_floating 1 = .ok (.invokestatic 132, 3) := by decide +kernel
theorem dX8_floating_4 : decode cX8_floating 4 = .ok (.lstore 6, 2) := by decide +kernel
theorem dX8_floating_6 : decode cX8_floating 6 = .ok (.iload_n 1, 1) := by decide +kernel
theorem dX8_floating_7 : decode cX8_floating 7 = .ok (.ifCond .ne 12, 3) := by decide +kernel
theorem dX8_floating_10 : decode cX8_floating 10 = .ok (.lload_n 2, 1) := by decide +kernel
theorem dX8_floating_11 : decode cX8_floating 11 = .ok (.lload 6, 2) := by decide +kernel
theorem dX8_floating_13 : decode cX8_floating 13 = .ok (.ldc2_w 113, 3) := by decide +kernel
theorem dX8_floating_16 : decode cX8_floating 16 = .ok (.lxor, 1) := by decide +kernel
theorem dX8_floating_17 : decode cX8_floating 17 = .ok (.land, 1) := by decide +kernel
theorem dX8_floating_18 : decode cX8_floating 18 = .ok (.lreturn, 1) := by decide +kernel
theorem dX8_floating_19 : decode cX8_floating 19 = .ok (.iload_n 1, 1) := by decide +kernel
theorem dX8_floating_20 : decode cX8_floating 20 = .ok (.iconst 1, 1) := by decide +kernel
theorem dX8_floating_21 : decode cX8_floating 21 = .ok (.if_icmp .ne 8, 3) := by decide +kernel
theorem dX8_floating_24 : decode cX8_floating 24 = .ok (.lload_n 2, 1) := by decide +kernel
theorem dX8_floating_25 : decode cX8_floating 25 = .ok (.lload 6, 2) := by decide +kernel
theorem dX8_floating_27 : decode cX8_floating 27 = .ok (.lxor, 1) := by decide +kernel
theorem dX8_floating_28 : decode cX8_floating 28 = .ok (.lreturn, 1) := by decide +kernel
theorem dX8_floating_29 : decode cX8_floating 29 = .ok (.iload_n 1, 1) := by decide +kernel
theorem dX8_floating_30 : decode cX8_floating 30 = .ok (.bipush 13, 2) := by decide +kernel
theorem dX8_floating_32 : decode cX8_floating 32 = .ok (.if_icmp .ne 18, 3) := by decide +kernel
theorem dX8_floating_35 : decode cX8_floating 35 = .ok (.lload_n 2, 1) := by decide +kernel
theorem dX8_floating_36 : decode cX8_floating 36 = .ok (.lload 6, 2) := by decide +kernel
theorem dX8_floating_38 : decode cX8_floating 38 = .ok (.ldc2_w 113, 3) := by decide +kernel
theorem dX8_floating_41 : decode cX8_floating 41 = .ok (.lxor, 1) := by decide +kernel
theorem dX8_floating_42 : decode cX8_floating 42 = .ok (.land, 1) := by decide +kernel
theorem dX8_floating_43 : decode cX8_floating 43 = .ok (.lload 4, 2) := by decide +kernel
theorem dX8_floating_45 : decode cX8_floating 45 = .ok (.lload 6, 2) := by decide +kernel
theorem dX8_floating_47 : decode cX8_floating 47 = .ok (.land, 1) := by decide +kernel
theorem dX8_floating_48 : decode cX8_floating 48 = .ok (.lor, 1) := by decide +kernel
theorem dX8_floating_49 : decode cX8_floating 49 = .ok (.lreturn, 1) := by decide +kernel
theorem dX8_floating_50 : decode cX8_floating 50 = .ok (.iload_n 0, 1) := by decide +kernel
theorem dX8_floating_51 : decode cX8_floating 51 = .ok (.lload_n 2, 1) := by decide +kernel
theorem dX8_floating_52 : decode cX8_floating 52 = .ok (.invokestatic 74, 3) := by decide +kernel
theorem dX8_floating_55 : decode cX8_floating 55 = .ok (.ifCond .ne 18, 3) := by decide +kernel
theorem dX8_floating_58 : decode cX8_floating 58 = .ok (.iload_n 1, 1) := by decide +kernel
theorem dX8_floating_59 : decode cX8_floating 59 = .ok (.bipush 6, 2) := by decide +kernel
theorem dX8_floating_61 : decode cX8_floating 61 = .ok (.if_icmp .le 17, 3) := by decide +kernel
theorem dX8_floating_64 : decode cX8_floating 64 = .ok (.iload_n 0, 1) := by decide +kernel
theorem dX8_floating_65 : decode cX8_floating 65 = .ok (.lload 4, 2) := by decide +kernel
theorem dX8_floating_67 : decode cX8_floating 67 = .ok (.invokestatic 74, 3) := by decide +kernel
theorem dX8_floating_70 : decode cX8_floating 70 = .ok (.ifCond .eq 8, 3) := by decide +kernel
theorem dX8_floating_73 : decode cX8_floating 73 = .ok (.iload_n 0, 1) := by decide +kernel
theorem dX8_floating_74 : decode cX8_floating 74 = .ok (.invokestatic 136, 3) := by decide +kernel
theorem dX8_floating_77 : decode cX8_floating 77 = .ok (.lreturn, 1) := by decide +kernel
theorem dX8_floating_78 : decode cX8_floating 78 = .ok (.iload_n 1, 1) := by decide +kernel
theorem dX8_floating_79 : decode cX8_floating 79 = .ok (.tableswitch 123 2 11 #[53, 53, 53, 53, 60, 66, 74, 85, 93, 101], 53) := by decide +kernel
theorem dX8_floating_132 : decode cX8_floating 132 = .ok (.iload_n 0, 1) := by decide +kernel
theorem dX8_floating_133 : decode cX8_floating 133 = .ok (.iload_n 1, 1) := by decide +kernel
theorem dX8_floating_134 : decode cX8_floating 134 = .ok (.lload_n 2, 1) := by decide +kernel
theorem dX8_floating_135 : decode cX8_floating 135 = .ok (.invokestatic 139, 3) := by decide +kernel
theorem dX8_floating_138 : decode cX8_floating 138 = .ok (.lreturn, 1) := by decide +kernel
theorem dX8_floating_139 : decode cX8_floating 139 = .ok (.iload_n 0, 1) := by decide +kernel
theorem dX8_floating_140 : decode cX8_floating 140 = .ok (.lload_n 2, 1) := by decide +kernel
theorem dX8_floating_141 : decode cX8_floating 141 = .ok (.invokestatic 143, 3) := by decide +kernel
theorem dX8_floating_144 : decode cX8_floating 144 = .ok (.lreturn, 1) := by decide +kernel
theorem dX8_floating_145 : decode cX8_floating 145 = .ok (.iload_n 0, 1) := by decide +kernel
theorem dX8_floating_146 : decode cX8_floating 146 = .ok (.lload_n 2, 1) := by decide +kernel
theorem dX8_floating_147 : decode cX8_floating 147 = .ok (.lload 4, 2) := by decide +kernel
theorem dX8_floating_149 : decode cX8_floating 149 = .ok (.invokestatic 146, 3) := by decide +kernel
theorem dX8_floating_152 : decode cX8_floating 152 = .ok (.lreturn, 1) := by decide +kernel
theorem dX8_floating_153 : decode cX8_floating 153 = .ok (.iload_n 0, 1) := by decide +kernel
theorem dX8_floating_154 : decode cX8_floating 154 = .ok (.lload_n 2, 1) := by decide +kernel
theorem dX8_floating_155 : decode cX8_floating 155 = .ok (.lload 4, 2) := by decide +kernel
theorem dX8_floating_157 : decode cX8_floating 157 = .ok (.lload 6, 2) := by decide +kernel
theorem dX8_floating_159 : decode cX8_floating 159 = .ok (.lxor, 1) := by decide +kernel
theorem dX8_floating_160 : decode cX8_floating 160 = .ok (.invokestatic 146, 3) := by decide +kernel
theorem dX8_floating_163 : decode cX8_floating 163 = .ok (.lreturn, 1) := by decide +kernel
theorem dX8_floating_164 : decode cX8_floating 164 = .ok (.iload_n 0, 1) := by decide +kernel
theorem dX8_floating_165 : decode cX8_floating 165 = .ok (.lload_n 2, 1) := by decide +kernel
theorem dX8_floating_166 : decode cX8_floating 166 = .ok (.lload 4, 2) := by decide +kernel
theorem dX8_floating_168 : decode cX8_floating 168 = .ok (.invokestatic 149, 3) := by decide +kernel
theorem dX8_floating_171 : decode cX8_floating 171 = .ok (.lreturn, 1) := by decide +kernel
theorem dX8_floating_172 : decode cX8_floating 172 = .ok (.iload_n 0, 1) := by decide +kernel
theorem dX8_floating_173 : decode cX8_floating 173 = .ok (.lload_n 2, 1) := by decide +kernel
theorem dX8_floating_174 : decode cX8_floating 174 = .ok (.lload 4, 2) := by decide +kernel
theorem dX8_floating_176 : decode cX8_floating 176 = .ok (.invokestatic 152, 3) := by decide +kernel
theorem dX8_floating_179 : decode cX8_floating 179 = .ok (.lreturn, 1) := by decide +kernel
theorem dX8_floating_180 : decode cX8_floating 180 = .ok (.iload_n 0, 1) := by decide +kernel
theorem dX8_floating_181 : decode cX8_floating 181 = .ok (.lload_n 2, 1) := by decide +kernel
theorem dX8_floating_182 : decode cX8_floating 182 = .ok (.invokestatic 81, 3) := by decide +kernel
theorem dX8_floating_185 : decode cX8_floating 185 = .ok (.iload_n 0, 1) := by decide +kernel
theorem dX8_floating_186 : decode cX8_floating 186 = .ok (.lload 4, 2) := by decide +kernel
theorem dX8_floating_188 : decode cX8_floating 188 = .ok (.invokestatic 81, 3) := by decide +kernel
theorem dX8_floating_191 : decode cX8_floating 191 = .ok (.lcmp, 1) := by decide +kernel
theorem dX8_floating_192 : decode cX8_floating 192 = .ok (.ifCond .gt 7, 3) := by decide +kernel
theorem dX8_floating_195 : decode cX8_floating 195 = .ok (.lload_n 2, 1) := by decide +kernel
theorem dX8_floating_196 : decode cX8_floating 196 = .ok (.goto 5, 3) := by decide +kernel
theorem dX8_floating_199 : decode cX8_floating 199 = .ok (.lload 4, 2) := by decide +kernel
theorem dX8_floating_201 : decode cX8_floating 201 = .ok (.lreturn, 1) := by decide +kernel
theorem dX8_floating_202 : decode cX8_floating 202 = .ok (.iload_n 0, 1) := by decide +kernel
theorem dX8_floating_203 : decode cX8_floating 203 = .ok (.lload_n 2, 1) := by decide +kernel
theorem dX8_floating_204 : decode cX8_floating 204 = .ok (.invokestatic 81, 3) := by decide +kernel
theorem dX8_floating_207 : decode cX8_floating 207 = .ok (.iload_n 0, 1) := by decide +kernel
theorem dX8_floating_208 : decode cX8_floating 208 = .ok (.lload 4, 2) := by decide +kernel
theorem dX8_floating_210 : decode cX8_floating 210 = .ok (.invokestatic 81, 3) := by decide +kernel
theorem dX8_floating_213 : decode cX8_floating 213 = .ok (.lcmp, 1) := by decide +kernel
theorem dX8_floating_214 : decode cX8_floating 214 = .ok (.ifCond .lt 7, 3) := by decide +kernel
theorem dX8_floating_217 : decode cX8_floating 217 = .ok (.lload_n 2, 1) := by decide +kernel
theorem dX8_floating_218 : decode cX8_floating 218 = .ok (.goto 5, 3) := by decide +kernel
theorem dX8_floating_221 : decode cX8_floating 221 = .ok (.lload 4, 2) := by decide +kernel
theorem dX8_floating_223 : decode cX8_floating 223 = .ok (.lreturn, 1) := by decide +kernel
noncomputable def fX8_floating_b78 (x0 : Int32) (x1 : Int32) (x2 : Int64) (x4 : Int64) (x6 : Int64) : Option Int64 := if x1 = 2 then (pm_let (fX8_toWholeFloating x0 x1 x2) fun v18 => some v18) else (if x1 = 3 then (pm_let (fX8_toWholeFloating x0 x1 x2) fun v21 => some v21) else (if x1 = 4 then (pm_let (fX8_toWholeFloating x0 x1 x2) fun v24 => some v24) else (if x1 = 5 then (pm_let (fX8_toWholeFloating x0 x1 x2) fun v27 => some v27) else (if x1 = 6 then ((fX8_root x0 x2).bind fun v30 => some v30) else (if x1 = 7 then (pm_let (fX8_add x0 x2 x4) fun v33 => some v33) else (if x1 = 8 then (pm_let (fX8_add x0 x2 (x4 ^^^ x6)) fun v36 => some v36) else (if x1 = 9 then (pm_let (fX8_multiply x0 x2 x4) fun v39 => some v39) else (if x1 = 10 then ((fX8_divide x0 x2 x4).bind fun v42 => some v42) else (if x1 = 11 then (pm_let (fX8_order x0 x2) fun v45 => pm_let (fX8_order x0 x4) fun v47 => if v47 < v45 then (some x4) else (some x2)) else (pm_let (fX8_order x0 x2) fun v50 => pm_let (fX8_order x0 x4) fun v52 => if v50 < v52 then (some x4) else (some x2)))))))))))
noncomputable def fX8_floating (p1 : Int32) (p2 : Int32) (p3 : Int64) (p4 : Int64) : Option Int64 := pm_let (fX8_sign p1) fun v1 => if p2 = 0 then (some (p3 &&& (v1 ^^^ (-1)))) else (if p2 = 1 then (some (p3 ^^^ v1)) else (if p2 = 13 then (some ((p3 &&& (v1 ^^^ (-1))) ||| (p4 &&& v1))) else (pm_let (fX8_isNone p1 p3) fun v6 => if v6 = 0 then (if p2 ≤ 6 then (fX8_floating_b78 p1 p2 p3 p4 v1) else (pm_let (fX8_isNone p1 p4) fun v12 => if v12 = 0 then (fX8_floating_b78 p1 p2 p3 p4 v1) else (pm_let (fX8_none p1) fun v15 => some v15))) else (pm_let (fX8_none p1) fun v9 => some v9))))
set_option maxHeartbeats 4000000 in
set_option maxRecDepth 100000 in
theorem bX8_floating_78 {g : pm_Gm} {l : Launch} {G : pm_Gl} {Qr : Option Value → pm_H → Prop} (C : pm_C g cX8_floating RX8) (X : pm_X g l G mX8_floating 0 0 Qr) {h : pm_H} {x0 : Int32} {x1 : Int32} {x2 : Int64} {x4 : Int64} {x6 : Int64} {r : Int64} (hf : fX8_floating_b78 x0 x1 x2 x4 x6 = some r) (q : Qr (some (.long r)) h) : pm_G g 78 [(0, .int x0), (1, .int x1), (2, .long x2), (4, .long x4), (6, .long x6)] [] h 0 0 := by
  unfold fX8_floating_b78 at hf
  refine pm_iload_n C dX8_floating_78 rfl rfl ?_
  by_cases c17 : x1 = 2
  · have hf := pm_it hf c17
    refine pm_tableIn (tgt := 132) C dX8_floating_79 (by rw [c17]; decide) (by rw [c17]; decide) (by rw [c17]; rfl) (by decide) ?_
    refine pm_iload_n C dX8_floating_132 rfl rfl ?_
    refine pm_iload_n C dX8_floating_133 rfl rfl ?_
    refine pm_lload_n C dX8_floating_134 rfl rfl ?_
    obtain ⟨v18, e19, hf⟩ := pm_lt hf
    refine pm_callS (as := [.int x0, .int x1, .long x2]) (st := []) C X dX8_floating_135 lnX8_139 myX8_toWholeFloating stX8_toWholeFloating ⟨by decide, by decide⟩ rfl rfl (Nat.le_of_ble_eq_true rfl) (Nat.le_refl _) (Nat.le_refl _) (ctX8_toWholeFloating e19 ?_)
    show pm_G g 138 [(0, .int x0), (1, .int x1), (2, .long x2), (4, .long x4), (6, .long x6)] [.long v18] h 0 0
    cases hf
    exact pm_lret C X dX8_floating_138 rfl (Nat.le_refl _) (Nat.le_refl _) q
  have hf := pm_ie hf c17
  by_cases c20 : x1 = 3
  · have hf := pm_it hf c20
    refine pm_tableIn (tgt := 132) C dX8_floating_79 (by rw [c20]; decide) (by rw [c20]; decide) (by rw [c20]; rfl) (by decide) ?_
    refine pm_iload_n C dX8_floating_132 rfl rfl ?_
    refine pm_iload_n C dX8_floating_133 rfl rfl ?_
    refine pm_lload_n C dX8_floating_134 rfl rfl ?_
    obtain ⟨v21, e22, hf⟩ := pm_lt hf
    refine pm_callS (as := [.int x0, .int x1, .long x2]) (st := []) C X dX8_floating_135 lnX8_139 myX8_toWholeFloating stX8_toWholeFloating ⟨by decide, by decide⟩ rfl rfl (Nat.le_of_ble_eq_true rfl) (Nat.le_refl _) (Nat.le_refl _) (ctX8_toWholeFloating e22 ?_)
    show pm_G g 138 [(0, .int x0), (1, .int x1), (2, .long x2), (4, .long x4), (6, .long x6)] [.long v21] h 0 0
    cases hf
    exact pm_lret C X dX8_floating_138 rfl (Nat.le_refl _) (Nat.le_refl _) q
  have hf := pm_ie hf c20
  by_cases c23 : x1 = 4
  · have hf := pm_it hf c23
    refine pm_tableIn (tgt := 132) C dX8_floating_79 (by rw [c23]; decide) (by rw [c23]; decide) (by rw [c23]; rfl) (by decide) ?_
    refine pm_iload_n C dX8_floating_132 rfl rfl ?_
    refine pm_iload_n C dX8_floating_133 rfl rfl ?_
    refine pm_lload_n C dX8_floating_134 rfl rfl ?_
    obtain ⟨v24, e25, hf⟩ := pm_lt hf
    refine pm_callS (as := [.int x0, .int x1, .long x2]) (st := []) C X dX8_floating_135 lnX8_139 myX8_toWholeFloating stX8_toWholeFloating ⟨by decide, by decide⟩ rfl rfl (Nat.le_of_ble_eq_true rfl) (Nat.le_refl _) (Nat.le_refl _) (ctX8_toWholeFloating e25 ?_)
    show pm_G g 138 [(0, .int x0), (1, .int x1), (2, .long x2), (4, .long x4), (6, .long x6)] [.long v24] h 0 0
    cases hf
    exact pm_lret C X dX8_floating_138 rfl (Nat.le_refl _) (Nat.le_refl _) q
  have hf := pm_ie hf c23
  by_cases c26 : x1 = 5
  · have hf := pm_it hf c26
    refine pm_tableIn (tgt := 132) C dX8_floating_79 (by rw [c26]; decide) (by rw [c26]; decide) (by rw [c26]; rfl) (by decide) ?_
    refine pm_iload_n C dX8_floating_132 rfl rfl ?_
    refine pm_iload_n C dX8_floating_133 rfl rfl ?_
    refine pm_lload_n C dX8_floating_134 rfl rfl ?_
    obtain ⟨v27, e28, hf⟩ := pm_lt hf
    refine pm_callS (as := [.int x0, .int x1, .long x2]) (st := []) C X dX8_floating_135 lnX8_139 myX8_toWholeFloating stX8_toWholeFloating ⟨by decide, by decide⟩ rfl rfl (Nat.le_of_ble_eq_true rfl) (Nat.le_refl _) (Nat.le_refl _) (ctX8_toWholeFloating e28 ?_)
    show pm_G g 138 [(0, .int x0), (1, .int x1), (2, .long x2), (4, .long x4), (6, .long x6)] [.long v27] h 0 0
    cases hf
    exact pm_lret C X dX8_floating_138 rfl (Nat.le_refl _) (Nat.le_refl _) q
  have hf := pm_ie hf c26
  by_cases c29 : x1 = 6
  · have hf := pm_it hf c29
    refine pm_tableIn (tgt := 139) C dX8_floating_79 (by rw [c29]; decide) (by rw [c29]; decide) (by rw [c29]; rfl) (by decide) ?_
    refine pm_iload_n C dX8_floating_139 rfl rfl ?_
    refine pm_lload_n C dX8_floating_140 rfl rfl ?_
    obtain ⟨v30, e31, hf⟩ := pm_bd hf
    refine pm_callS (as := [.int x0, .long x2]) (st := []) C X dX8_floating_141 lnX8_143 myX8_root stX8_root ⟨by decide, by decide⟩ rfl rfl (Nat.le_of_ble_eq_true rfl) (Nat.le_refl _) (Nat.le_refl _) (ctX8_root e31 ?_)
    show pm_G g 144 [(0, .int x0), (1, .int x1), (2, .long x2), (4, .long x4), (6, .long x6)] [.long v30] h 0 0
    cases hf
    exact pm_lret C X dX8_floating_144 rfl (Nat.le_refl _) (Nat.le_refl _) q
  have hf := pm_ie hf c29
  by_cases c32 : x1 = 7
  · have hf := pm_it hf c32
    refine pm_tableIn (tgt := 145) C dX8_floating_79 (by rw [c32]; decide) (by rw [c32]; decide) (by rw [c32]; rfl) (by decide) ?_
    refine pm_iload_n C dX8_floating_145 rfl rfl ?_
    refine pm_lload_n C dX8_floating_146 rfl rfl ?_
    refine pm_lload C dX8_floating_147 rfl ?_
    obtain ⟨v33, e34, hf⟩ := pm_lt hf
    refine pm_callS (as := [.int x0, .long x2, .long x4]) (st := []) C X dX8_floating_149 lnX8_146 myX8_add stX8_add ⟨by decide, by decide⟩ rfl rfl (Nat.le_of_ble_eq_true rfl) (Nat.le_refl _) (Nat.le_refl _) (ctX8_add e34 ?_)
    show pm_G g 152 [(0, .int x0), (1, .int x1), (2, .long x2), (4, .long x4), (6, .long x6)] [.long v33] h 0 0
    cases hf
    exact pm_lret C X dX8_floating_152 rfl (Nat.le_refl _) (Nat.le_refl _) q
  have hf := pm_ie hf c32
  by_cases c35 : x1 = 8
  · have hf := pm_it hf c35
    refine pm_tableIn (tgt := 153) C dX8_floating_79 (by rw [c35]; decide) (by rw [c35]; decide) (by rw [c35]; rfl) (by decide) ?_
    refine pm_iload_n C dX8_floating_153 rfl rfl ?_
    refine pm_lload_n C dX8_floating_154 rfl rfl ?_
    refine pm_lload C dX8_floating_155 rfl ?_
    refine pm_lload C dX8_floating_157 rfl ?_
    refine pm_lxor C dX8_floating_159 ?_
    obtain ⟨v36, e37, hf⟩ := pm_lt hf
    refine pm_callS (as := [.int x0, .long x2, .long (x4 ^^^ x6)]) (st := []) C X dX8_floating_160 lnX8_146 myX8_add stX8_add ⟨by decide, by decide⟩ rfl rfl (Nat.le_of_ble_eq_true rfl) (Nat.le_refl _) (Nat.le_refl _) (ctX8_add e37 ?_)
    show pm_G g 163 [(0, .int x0), (1, .int x1), (2, .long x2), (4, .long x4), (6, .long x6)] [.long v36] h 0 0
    cases hf
    exact pm_lret C X dX8_floating_163 rfl (Nat.le_refl _) (Nat.le_refl _) q
  have hf := pm_ie hf c35
  by_cases c38 : x1 = 9
  · have hf := pm_it hf c38
    refine pm_tableIn (tgt := 164) C dX8_floating_79 (by rw [c38]; decide) (by rw [c38]; decide) (by rw [c38]; rfl) (by decide) ?_
    refine pm_iload_n C dX8_floating_164 rfl rfl ?_
    refine pm_lload_n C dX8_floating_165 rfl rfl ?_
    refine pm_lload C dX8_floating_166 rfl ?_
    obtain ⟨v39, e40, hf⟩ := pm_lt hf
    refine pm_callS (as := [.int x0, .long x2, .long x4]) (st := []) C X dX8_floating_168 lnX8_149 myX8_multiply stX8_multiply ⟨by decide, by decide⟩ rfl rfl (Nat.le_of_ble_eq_true rfl) (Nat.le_refl _) (Nat.le_refl _) (ctX8_multiply e40 ?_)
    show pm_G g 171 [(0, .int x0), (1, .int x1), (2, .long x2), (4, .long x4), (6, .long x6)] [.long v39] h 0 0
    cases hf
    exact pm_lret C X dX8_floating_171 rfl (Nat.le_refl _) (Nat.le_refl _) q
  have hf := pm_ie hf c38
  by_cases c41 : x1 = 10
  · have hf := pm_it hf c41
    refine pm_tableIn (tgt := 172) C dX8_floating_79 (by rw [c41]; decide) (by rw [c41]; decide) (by rw [c41]; rfl) (by decide) ?_
    refine pm_iload_n C dX8_floating_172 rfl rfl ?_
    refine pm_lload_n C dX8_floating_173 rfl rfl ?_
    refine pm_lload C dX8_floating_174 rfl ?_
    obtain ⟨v42, e43, hf⟩ := pm_bd hf
    refine pm_callS (as := [.int x0, .long x2, .long x4]) (st := []) C X dX8_floating_176 lnX8_152 myX8_divide stX8_divide ⟨by decide, by decide⟩ rfl rfl (Nat.le_of_ble_eq_true rfl) (Nat.le_refl _) (Nat.le_refl _) (ctX8_divide e43 ?_)
    show pm_G g 179 [(0, .int x0), (1, .int x1), (2, .long x2), (4, .long x4), (6, .long x6)] [.long v42] h 0 0
    cases hf
    exact pm_lret C X dX8_floating_179 rfl (Nat.le_refl _) (Nat.le_refl _) q
  have hf := pm_ie hf c41
  by_cases c44 : x1 = 11
  · have hf := pm_it hf c44
    refine pm_tableIn (tgt := 180) C dX8_floating_79 (by rw [c44]; decide) (by rw [c44]; decide) (by rw [c44]; rfl) (by decide) ?_
    refine pm_iload_n C dX8_floating_180 rfl rfl ?_
    refine pm_lload_n C dX8_floating_181 rfl rfl ?_
    obtain ⟨v45, e46, hf⟩ := pm_lt hf
    refine pm_callS (as := [.int x0, .long x2]) (st := []) C X dX8_floating_182 lnX8_81 myX8_order stX8_order ⟨by decide, by decide⟩ rfl rfl (Nat.le_of_ble_eq_true rfl) (Nat.le_refl _) (Nat.le_refl _) (ctX8_order e46 ?_)
    show pm_G g 185 [(0, .int x0), (1, .int x1), (2, .long x2), (4, .long x4), (6, .long x6)] [.long v45] h 0 0
    refine pm_iload_n C dX8_floating_185 rfl rfl ?_
    refine pm_lload C dX8_floating_186 rfl ?_
    obtain ⟨v47, e48, hf⟩ := pm_lt hf
    refine pm_callS (as := [.int x0, .long x4]) (st := [.long v45]) C X dX8_floating_188 lnX8_81 myX8_order stX8_order ⟨by decide, by decide⟩ rfl rfl (Nat.le_of_ble_eq_true rfl) (Nat.le_refl _) (Nat.le_refl _) (ctX8_order e48 ?_)
    show pm_G g 191 [(0, .int x0), (1, .int x1), (2, .long x2), (4, .long x4), (6, .long x6)] [.long v47, .long v45] h 0 0
    refine pm_lcmp C dX8_floating_191 ?_
    refine pm_if_gt (tgt := 199) C dX8_floating_192 (by decide) (fun c49 => ?_) (fun c49 => ?_)
    · have hf := pm_it hf ((pm_lg_gt _ _).mp c49)
      refine pm_lload C dX8_floating_199 rfl ?_
      cases hf
      exact pm_lret C X dX8_floating_201 rfl (Nat.le_refl _) (Nat.le_refl _) q
    · have hf := pm_ie hf ((fun z => c49 ((pm_lg_gt _ _).mpr z)))
      refine pm_lload_n C dX8_floating_195 rfl rfl ?_
      refine pm_goto (tgt := 201) C dX8_floating_196 (by decide) ?_
      cases hf
      exact pm_lret C X dX8_floating_201 rfl (Nat.le_refl _) (Nat.le_refl _) q
  have hf := pm_ie hf c44
  have nc17 := lv_neT c17 (by decide : (2 : Int32).toInt = 2)
  have nc20 := lv_neT c20 (by decide : (3 : Int32).toInt = 3)
  have nc23 := lv_neT c23 (by decide : (4 : Int32).toInt = 4)
  have nc26 := lv_neT c26 (by decide : (5 : Int32).toInt = 5)
  have nc29 := lv_neT c29 (by decide : (6 : Int32).toInt = 6)
  have nc32 := lv_neT c32 (by decide : (7 : Int32).toInt = 7)
  have nc35 := lv_neT c35 (by decide : (8 : Int32).toInt = 8)
  have nc38 := lv_neT c38 (by decide : (9 : Int32).toInt = 9)
  have nc41 := lv_neT c41 (by decide : (10 : Int32).toInt = 10)
  have nc44 := lv_neT c44 (by decide : (11 : Int32).toInt = 11)
  refine pm_tableOut (tgt := 202) C dX8_floating_79 (by omega) (by decide) ?_
  refine pm_iload_n C dX8_floating_202 rfl rfl ?_
  refine pm_lload_n C dX8_floating_203 rfl rfl ?_
  obtain ⟨v50, e51, hf⟩ := pm_lt hf
  refine pm_callS (as := [.int x0, .long x2]) (st := []) C X dX8_floating_204 lnX8_81 myX8_order stX8_order ⟨by decide, by decide⟩ rfl rfl (Nat.le_of_ble_eq_true rfl) (Nat.le_refl _) (Nat.le_refl _) (ctX8_order e51 ?_)
  show pm_G g 207 [(0, .int x0), (1, .int x1), (2, .long x2), (4, .long x4), (6, .long x6)] [.long v50] h 0 0
  refine pm_iload_n C dX8_floating_207 rfl rfl ?_
  refine pm_lload C dX8_floating_208 rfl ?_
  obtain ⟨v52, e53, hf⟩ := pm_lt hf
  refine pm_callS (as := [.int x0, .long x4]) (st := [.long v50]) C X dX8_floating_210 lnX8_81 myX8_order stX8_order ⟨by decide, by decide⟩ rfl rfl (Nat.le_of_ble_eq_true rfl) (Nat.le_refl _) (Nat.le_refl _) (ctX8_order e53 ?_)
  show pm_G g 213 [(0, .int x0), (1, .int x1), (2, .long x2), (4, .long x4), (6, .long x6)] [.long v52, .long v50] h 0 0
  refine pm_lcmp C dX8_floating_213 ?_
  refine pm_if_lt (tgt := 221) C dX8_floating_214 (by decide) (fun c54 => ?_) (fun c54 => ?_)
  · have hf := pm_it hf ((pm_lg_lt _ _).mp c54)
    refine pm_lload C dX8_floating_221 rfl ?_
    cases hf
    exact pm_lret C X dX8_floating_223 rfl (Nat.le_refl _) (Nat.le_refl _) q
  · have hf := pm_ie hf ((fun z => c54 ((pm_lg_lt _ _).mpr z)))
    refine pm_lload_n C dX8_floating_217 rfl rfl ?_
    refine pm_goto (tgt := 223) C dX8_floating_218 (by decide) ?_
    cases hf
    exact pm_lret C X dX8_floating_223 rfl (Nat.le_refl _) (Nat.le_refl _) q
set_option maxHeartbeats 4000000 in
set_option maxRecDepth 100000 in
theorem ctX8_floating {l : Launch} {G : pm_Gl} {h : pm_H} {p1 : Int32} {p2 : Int32} {p3 : Int64} {p4 : Int64} {r : Int64} {Qr : Option Value → pm_H → Prop} (hf : fX8_floating p1 p2 p3 p4 = some r) (q : Qr (some (.long r)) h) : pm_Ct l G mX8_floating [.int p1, .int p2, .long p3, .long p4] h 0 0 Qr := by
  refine pm_body pnX8 (Nat.le_of_ble_eq_true rfl) (fun g C X => ?_)
  have C : pm_C g cX8_floating RX8 := C
  show pm_G g 0 [(0, .int p1), (1, .int p2), (2, .long p3), (4, .long p4)] [] h 0 0
  unfold fX8_floating at hf
  refine pm_iload_n C dX8_floating_0 rfl rfl ?_
  obtain ⟨v1, e2, hf⟩ := pm_lt hf
  refine pm_callS (as := [.int p1]) (st := []) C X dX8_floating_1 lnX8_132 myX8_sign stX8_sign ⟨by decide, by decide⟩ rfl rfl (Nat.le_of_ble_eq_true rfl) (Nat.le_refl _) (Nat.le_refl _) (ctX8_sign e2 ?_)
  show pm_G g 4 [(0, .int p1), (1, .int p2), (2, .long p3), (4, .long p4)] [.long v1] h 0 0
  refine pm_lstore (lv' := [(6, .long v1), (0, .int p1), (1, .int p2), (2, .long p3), (4, .long p4)]) C dX8_floating_4 (pm_nl X (by decide)) rfl ?_
  refine pm_iload_n C dX8_floating_6 rfl rfl ?_
  refine pm_if_ne (tgt := 19) C dX8_floating_7 (by decide) (fun c3 => ?_) (fun c3 => ?_)
  · have hf := pm_ie hf c3
    refine pm_iload_n C dX8_floating_19 rfl rfl ?_
    refine pm_iconst (v := 1) C dX8_floating_20 (by decide) ?_
    refine pm_icmp_ne (tgt := 29) C dX8_floating_21 (by decide) (fun c4 => ?_) (fun c4 => ?_)
    · have hf := pm_ie hf c4
      refine pm_iload_n C dX8_floating_29 rfl rfl ?_
      refine pm_bipush (v := 13) C dX8_floating_30 (by decide) ?_
      refine pm_icmp_ne (tgt := 50) C dX8_floating_32 (by decide) (fun c5 => ?_) (fun c5 => ?_)
      · have hf := pm_ie hf c5
        refine pm_iload_n C dX8_floating_50 rfl rfl ?_
        refine pm_lload_n C dX8_floating_51 rfl rfl ?_
        obtain ⟨v6, e7, hf⟩ := pm_lt hf
        refine pm_callS (as := [.int p1, .long p3]) (st := []) C X dX8_floating_52 lnX8_74 myX8_isNone stX8_isNone ⟨by decide, by decide⟩ rfl rfl (Nat.le_of_ble_eq_true rfl) (Nat.le_refl _) (Nat.le_refl _) (ctX8_isNone e7 ?_)
        show pm_G g 55 [(6, .long v1), (0, .int p1), (1, .int p2), (2, .long p3), (4, .long p4)] [.int v6] h 0 0
        refine pm_if_ne (tgt := 73) C dX8_floating_55 (by decide) (fun c8 => ?_) (fun c8 => ?_)
        · have hf := pm_ie hf c8
          refine pm_iload_n C dX8_floating_73 rfl rfl ?_
          obtain ⟨v9, e10, hf⟩ := pm_lt hf
          refine pm_callS (as := [.int p1]) (st := []) C X dX8_floating_74 lnX8_136 myX8_none stX8_none ⟨by decide, by decide⟩ rfl rfl (Nat.le_of_ble_eq_true rfl) (Nat.le_refl _) (Nat.le_refl _) (ctX8_none e10 ?_)
          show pm_G g 77 [(6, .long v1), (0, .int p1), (1, .int p2), (2, .long p3), (4, .long p4)] [.long v9] h 0 0
          cases hf
          exact pm_lret C X dX8_floating_77 rfl (Nat.le_refl _) (Nat.le_refl _) q
        · have hf := pm_it hf c8
          refine pm_iload_n C dX8_floating_58 rfl rfl ?_
          refine pm_bipush (v := 6) C dX8_floating_59 (by decide) ?_
          refine pm_icmp_le (tgt := 78) C dX8_floating_61 (by decide) (fun c11 => ?_) (fun c11 => ?_)
          · have hf := pm_it hf c11
            exact pm_sub [1, 2, 3, 4, 0] rfl (bX8_floating_78 C X hf q)
          · have hf := pm_ie hf c11
            refine pm_iload_n C dX8_floating_64 rfl rfl ?_
            refine pm_lload C dX8_floating_65 rfl ?_
            obtain ⟨v12, e13, hf⟩ := pm_lt hf
            refine pm_callS (as := [.int p1, .long p4]) (st := []) C X dX8_floating_67 lnX8_74 myX8_isNone stX8_isNone ⟨by decide, by decide⟩ rfl rfl (Nat.le_of_ble_eq_true rfl) (Nat.le_refl _) (Nat.le_refl _) (ctX8_isNone e13 ?_)
            show pm_G g 70 [(6, .long v1), (0, .int p1), (1, .int p2), (2, .long p3), (4, .long p4)] [.int v12] h 0 0
            refine pm_if_eq (tgt := 78) C dX8_floating_70 (by decide) (fun c14 => ?_) (fun c14 => ?_)
            · have hf := pm_it hf c14
              exact pm_sub [1, 2, 3, 4, 0] rfl (bX8_floating_78 C X hf q)
            · have hf := pm_ie hf c14
              refine pm_iload_n C dX8_floating_73 rfl rfl ?_
              obtain ⟨v15, e16, hf⟩ := pm_lt hf
              refine pm_callS (as := [.int p1]) (st := []) C X dX8_floating_74 lnX8_136 myX8_none stX8_none ⟨by decide, by decide⟩ rfl rfl (Nat.le_of_ble_eq_true rfl) (Nat.le_refl _) (Nat.le_refl _) (ctX8_none e16 ?_)
              show pm_G g 77 [(6, .long v1), (0, .int p1), (1, .int p2), (2, .long p3), (4, .long p4)] [.long v15] h 0 0
              cases hf
              exact pm_lret C X dX8_floating_77 rfl (Nat.le_refl _) (Nat.le_refl _) q
      · have hf := pm_it hf c5
        refine pm_lload_n C dX8_floating_35 rfl rfl ?_
        refine pm_lload C dX8_floating_36 rfl ?_
        refine pm_ldc2 C dX8_floating_38 cnX8_113 ?_
        refine pm_lxor C dX8_floating_41 ?_
        refine pm_land C dX8_floating_42 ?_
        refine pm_lload C dX8_floating_43 rfl ?_
        refine pm_lload C dX8_floating_45 rfl ?_
        refine pm_land C dX8_floating_47 ?_
        refine pm_lor C dX8_floating_48 ?_
        cases hf
        exact pm_lret C X dX8_floating_49 rfl (Nat.le_refl _) (Nat.le_refl _) q
    · have hf := pm_it hf c4
      refine pm_lload_n C dX8_floating_24 rfl rfl ?_
      refine pm_lload C dX8_floating_25 rfl ?_
      refine pm_lxor C dX8_floating_27 ?_
      cases hf
      exact pm_lret C X dX8_floating_28 rfl (Nat.le_refl _) (Nat.le_refl _) q
  · have hf := pm_it hf c3
    refine pm_lload_n C dX8_floating_10 rfl rfl ?_
    refine pm_lload C dX8_floating_11 rfl ?_
    refine pm_ldc2 C dX8_floating_13 cnX8_113 ?_
    refine pm_lxor C dX8_floating_16 ?_
    refine pm_land C dX8_floating_17 ?_
    cases hf
    exact pm_lret C X dX8_floating_18 rfl (Nat.le_refl _) (Nat.le_refl _) q
theorem dX9_exportOne_0 : decode cX9_exportOne 0 = .ok (.aload_n 0, 1) := by decide +kernel
theorem dX9_exportOne_1 : decode cX9_exportOne 1 = .ok (.getfield 133, 3) := by decide +kernel
theorem dX9_exportOne_4 : decode cX9_exportOne 4 = .ok (.iconst 4, 1) := by decide +kernel
theorem dX9_exportOne_5 : decode cX9_exportOne 5 = .ok (.imul, 1) := by decide +kernel
theorem dX9_exportOne_6 : decode cX9_exportOne 6 = .ok (.istore_n 1, 1) := by decide +kernel
theorem dX9_exportOne_7 : decode cX9_exportOne 7 = .ok (.aload_n 0, 1) := by decide +kernel
theorem dX9_exportOne_8 : decode cX9_exportOne 8 = .ok (.invokevirtual 156, 3) := by decide +kernel
theorem dX9_exportOne_11 : decode cX9_exportOne 11 = .ok (.istore_n 2, 1) := by decide +kernel
theorem dX9_exportOne_12 : decode cX9_exportOne 12 = .ok (.aload_n 0, 1) := by decide +kernel
theorem dX9_exportOne_13 : decode cX9_exportOne 13 = .ok (.getfield 19, 3) := by decide +kernel
theorem dX9_exportOne_16 : decode cX9_exportOne 16 = .ok (.getfield 211, 3) := by decide +kernel
theorem dX9_exportOne_19 : decode cX9_exportOne 19 = .ok (.iload_n 1, 1) := by decide +kernel
theorem dX9_exportOne_20 : decode cX9_exportOne 20 = .ok (.iconst 0, 1) := by decide +kernel
theorem dX9_exportOne_21 : decode cX9_exportOne 21 = .ok (.iadd, 1) := by decide +kernel
theorem dX9_exportOne_22 : decode cX9_exportOne 22 = .ok (.aload_n 0, 1) := by decide +kernel
theorem dX9_exportOne_23 : decode cX9_exportOne 23 = .ok (.getfield 51, 3) := by decide +kernel
theorem dX9_exportOne_26 : decode cX9_exportOne 26 = .ok (.iload_n 2, 1) := by decide +kernel
theorem dX9_exportOne_27 : decode cX9_exportOne 27 = .ok (.isub, 1) := by decide +kernel
theorem dX9_exportOne_28 : decode cX9_exportOne 28 = .ok (.invokestatic 152, 3) := by decide +kernel
theorem dX9_exportOne_31 : decode cX9_exportOne 31 = .ok (.aload_n 0, 1) := by decide +kernel
theorem dX9_exportOne_32 : decode cX9_exportOne 32 = .ok (.getfield 19, 3) := by decide +kernel
theorem dX9_exportOne_35 : decode cX9_exportOne 35 = .ok (.getfield 211, 3) := by decide +kernel
theorem dX9_exportOne_38 : decode cX9_exportOne 38 = .ok (.iload_n 1, 1) := by decide +kernel
theorem dX9_exportOne_39 : decode cX9_exportOne 39 = .ok (.iconst 1, 1) := by decide +kernel
theorem dX9_exportOne_40 : decode cX9_exportOne 40 = .ok (.iadd, 1) := by decide +kernel
theorem dX9_exportOne_41 : decode cX9_exportOne 41 = .ok (.iload_n 2, 1) := by decide +kernel
theorem dX9_exportOne_42 : decode cX9_exportOne 42 = .ok (.invokestatic 152, 3) := by decide +kernel
theorem dX9_exportOne_45 : decode cX9_exportOne 45 = .ok (.aload_n 0, 1) := by decide +kernel
theorem dX9_exportOne_46 : decode cX9_exportOne 46 = .ok (.getfield 19, 3) := by decide +kernel
theorem dX9_exportOne_49 : decode cX9_exportOne 49 = .ok (.getfield 211, 3) := by decide +kernel
theorem dX9_exportOne_52 : decode cX9_exportOne 52 = .ok (.iload_n 1, 1) := by decide +kernel
theorem dX9_exportOne_53 : decode cX9_exportOne 53 = .ok (.iconst 2, 1) := by decide +kernel
theorem dX9_exportOne_54 : decode cX9_exportOne 54 = .ok (.iadd, 1) := by decide +kernel
theorem dX9_exportOne_55 : decode cX9_exportOne 55 = .ok (.aload_n 0, 1) := by decide +kernel
theorem dX9_exportOne_56 : decode cX9_exportOne 56 = .ok (.iconst 3, 1) := by decide +kernel
theorem dX9_exportOne_57 : decode cX9_exportOne 57 = .ok (.invokevirtual 228, 3) := by decide +kernel
theorem dX9_exportOne_60 : decode cX9_exportOne 60 = .ok (.invokestatic 152, 3) := by decide +kernel
theorem dX9_exportOne_63 : decode cX9_exportOne 63 = .ok (.aload_n 0, 1) := by decide +kernel
theorem dX9_exportOne_64 : decode cX9_exportOne 64 = .ok (.getfield 19, 3) := by decide +kernel
theorem dX9_exportOne_67 : decode cX9_exportOne 67 = .ok (.getfield 211, 3) := by decide +kernel
theorem dX9_exportOne_70 : decode cX9_exportOne 70 = .ok (.iload_n 1, 1) := by decide +kernel
theorem dX9_exportOne_71 : decode cX9_exportOne 71 = .ok (.iconst 3, 1) := by decide +kernel
theorem dX9_exportOne_72 : decode cX9_exportOne 72 = .ok (.iadd, 1) := by decide +kernel
theorem dX9_exportOne_73 : decode cX9_exportOne 73 = .ok (.aload_n 0, 1) := by decide +kernel
theorem dX9_exportOne_74 : decode cX9_exportOne 74 = .ok (.bipush 32, 2) := by decide +kernel
theorem dX9_exportOne_76 : decode cX9_exportOne 76 = .ok (.invokevirtual 145, 3) := by decide +kernel
theorem dX9_exportOne_79 : decode cX9_exportOne 79 = .ok (.invokestatic 247, 3) := by decide +kernel
theorem dX9_exportOne_82 : decode cX9_exportOne 82 = .ok (.invokestatic 152, 3) := by decide +kernel
theorem dX9_exportOne_85 : decode cX9_exportOne 85 = .ok (.return_, 1) := by decide +kernel
noncomputable def fX9_exportOne (h : pm_H) (a0 : Nat) : Option pm_H := if pm_kd h a0 = 9 then pm_let ((pm_I h a0 15) * 4) fun y2 => (fX9_name h a0).bind fun v4 => if pm_kd v4.2 a0 = 9 then (pm_R v4.2 a0 0).bind fun v7 => if pm_kd v4.2 v7 = 7 then (pm_R v4.2 v7 8).bind fun v10 => (fX12_setItem v4.2 v10 (y2 + 0) ((pm_I v4.2 a0 1) - v4.1)).bind fun v12 => if pm_kd v12 a0 = 9 then (pm_R v12 a0 0).bind fun v15 => if pm_kd v12 v15 = 7 then (pm_R v12 v15 8).bind fun v18 => (fX12_setItem v12 v18 (y2 + 1) v4.1).bind fun v20 => if pm_kd v20 a0 = 9 then (pm_R v20 a0 0).bind fun v23 => if pm_kd v20 v23 = 7 then (pm_R v20 v23 8).bind fun v26 => (fX9_nextUpTo v20 a0 3).bind fun v28 => (fX12_setItem v28.2 v26 (y2 + 2) v28.1).bind fun v30 => if pm_kd v30 a0 = 9 then (pm_R v30 a0 0).bind fun v33 => if pm_kd v30 v33 = 7 then (pm_R v30 v33 8).bind fun v36 => (fX9_number v30 a0 32).bind fun v38 => pm_let (fX12_index v38.1) fun v40 => (fX12_setItem v38.2 v36 (y2 + 3) v40).bind fun v42 => some v42 else none else none else none else none else none else none else none else none else none
set_option maxHeartbeats 4000000 in
set_option maxRecDepth 100000 in
theorem ctX9_exportOne {l : Launch} {G : pm_Gl} {h : pm_H} {a0 : Nat} {r : pm_H} {Qr : Option Value → pm_H → Prop} (hf : fX9_exportOne h a0 = some r) (q : Qr none r) : pm_Ct l G mX9_exportOne [.ref a0] h 0 0 Qr := by
  refine pm_body pnX9 (Nat.le_of_ble_eq_true rfl) (fun g C X => ?_)
  have C : pm_C g cX9_exportOne RX9 := C
  show pm_G g 0 [(0, .ref a0)] [] h 0 0
  unfold fX9_exportOne at hf
  refine pm_aload_n C dX9_exportOne_0 rfl rfl ?_
  obtain ⟨k1, hf⟩ := pm_if hf
  refine pm_getI C dX9_exportOne_1 flX9_133 rfl k1 rfl ?_
  refine pm_iconst (v := 4) C dX9_exportOne_4 (by decide) ?_
  refine pm_imul C dX9_exportOne_5 ?_
  obtain ⟨y2, e3, hf⟩ := pm_lt hf
  refine pm_topI e3 ?_
  refine pm_istore_n (lv' := [(1, .int y2), (0, .ref a0)]) C dX9_exportOne_6 rfl (pm_nl X (by decide)) rfl ?_
  refine pm_aload_n C dX9_exportOne_7 rfl rfl ?_
  obtain ⟨v4, e5, hf⟩ := pm_bd hf
  refine pm_callV (as := []) (st := []) C X dX9_exportOne_8 lnX9_156 myX9_name viX9_name ⟨by decide, by decide⟩ rfl rfl k1 (Nat.le_of_ble_eq_true rfl) (Nat.le_refl _) (Nat.le_refl _) (ctX9_name e5 ?_)
  show pm_G g 11 [(1, .int y2), (0, .ref a0)] [.int v4.1] v4.2 0 0
  refine pm_istore_n (lv' := [(2, .int v4.1), (1, .int y2), (0, .ref a0)]) C dX9_exportOne_11 rfl (pm_nl X (by decide)) rfl ?_
  refine pm_aload_n C dX9_exportOne_12 rfl rfl ?_
  obtain ⟨k6, hf⟩ := pm_if hf
  obtain ⟨v7, e8, hf⟩ := pm_bd hf
  refine pm_getR C dX9_exportOne_13 flX9_19 rfl k6 e8 ?_
  obtain ⟨k9, hf⟩ := pm_if hf
  obtain ⟨v10, e11, hf⟩ := pm_bd hf
  refine pm_getR C dX9_exportOne_16 flX9_211 rfl k9 e11 ?_
  refine pm_iload_n C dX9_exportOne_19 rfl rfl ?_
  refine pm_iconst (v := 0) C dX9_exportOne_20 (by decide) ?_
  refine pm_iadd C dX9_exportOne_21 ?_
  refine pm_aload_n C dX9_exportOne_22 rfl rfl ?_
  refine pm_getI C dX9_exportOne_23 flX9_51 rfl k6 rfl ?_
  refine pm_iload_n C dX9_exportOne_26 rfl rfl ?_
  refine pm_isub C dX9_exportOne_27 ?_
  obtain ⟨v12, e13, hf⟩ := pm_bd hf
  refine pm_callS (as := [.ref v10, .int (y2 + 0), .int ((pm_I v4.2 a0 1) - v4.1)]) (st := []) C X dX9_exportOne_28 lnX9_152 myX12_setItem stX12_setItem ⟨by decide, by decide⟩ rfl rfl (Nat.le_of_ble_eq_true rfl) (Nat.le_refl _) (Nat.le_refl _) (ctX12_setItem e13 ?_)
  show pm_G g 31 [(2, .int v4.1), (1, .int y2), (0, .ref a0)] [] v12 0 0
  refine pm_aload_n C dX9_exportOne_31 rfl rfl ?_
  obtain ⟨k14, hf⟩ := pm_if hf
  obtain ⟨v15, e16, hf⟩ := pm_bd hf
  refine pm_getR C dX9_exportOne_32 flX9_19 rfl k14 e16 ?_
  obtain ⟨k17, hf⟩ := pm_if hf
  obtain ⟨v18, e19, hf⟩ := pm_bd hf
  refine pm_getR C dX9_exportOne_35 flX9_211 rfl k17 e19 ?_
  refine pm_iload_n C dX9_exportOne_38 rfl rfl ?_
  refine pm_iconst (v := 1) C dX9_exportOne_39 (by decide) ?_
  refine pm_iadd C dX9_exportOne_40 ?_
  refine pm_iload_n C dX9_exportOne_41 rfl rfl ?_
  obtain ⟨v20, e21, hf⟩ := pm_bd hf
  refine pm_callS (as := [.ref v18, .int (y2 + 1), .int v4.1]) (st := []) C X dX9_exportOne_42 lnX9_152 myX12_setItem stX12_setItem ⟨by decide, by decide⟩ rfl rfl (Nat.le_of_ble_eq_true rfl) (Nat.le_refl _) (Nat.le_refl _) (ctX12_setItem e21 ?_)
  show pm_G g 45 [(2, .int v4.1), (1, .int y2), (0, .ref a0)] [] v20 0 0
  refine pm_aload_n C dX9_exportOne_45 rfl rfl ?_
  obtain ⟨k22, hf⟩ := pm_if hf
  obtain ⟨v23, e24, hf⟩ := pm_bd hf
  refine pm_getR C dX9_exportOne_46 flX9_19 rfl k22 e24 ?_
  obtain ⟨k25, hf⟩ := pm_if hf
  obtain ⟨v26, e27, hf⟩ := pm_bd hf
  refine pm_getR C dX9_exportOne_49 flX9_211 rfl k25 e27 ?_
  refine pm_iload_n C dX9_exportOne_52 rfl rfl ?_
  refine pm_iconst (v := 2) C dX9_exportOne_53 (by decide) ?_
  refine pm_iadd C dX9_exportOne_54 ?_
  refine pm_aload_n C dX9_exportOne_55 rfl rfl ?_
  refine pm_iconst (v := 3) C dX9_exportOne_56 (by decide) ?_
  obtain ⟨v28, e29, hf⟩ := pm_bd hf
  refine pm_callV (as := [.int 3]) (st := [.int (y2 + 2), .ref v26]) C X dX9_exportOne_57 lnX9_228 myX9_nextUpTo viX9_nextUpTo ⟨by decide, by decide⟩ rfl rfl k22 (Nat.le_of_ble_eq_true rfl) (Nat.le_refl _) (Nat.le_refl _) (ctX9_nextUpTo e29 ?_)
  show pm_G g 60 [(2, .int v4.1), (1, .int y2), (0, .ref a0)] [.int v28.1, .int (y2 + 2), .ref v26] v28.2 0 0
  obtain ⟨v30, e31, hf⟩ := pm_bd hf
  refine pm_callS (as := [.ref v26, .int (y2 + 2), .int v28.1]) (st := []) C X dX9_exportOne_60 lnX9_152 myX12_setItem stX12_setItem ⟨by decide, by decide⟩ rfl rfl (Nat.le_of_ble_eq_true rfl) (Nat.le_refl _) (Nat.le_refl _) (ctX12_setItem e31 ?_)
  show pm_G g 63 [(2, .int v4.1), (1, .int y2), (0, .ref a0)] [] v30 0 0
  refine pm_aload_n C dX9_exportOne_63 rfl rfl ?_
  obtain ⟨k32, hf⟩ := pm_if hf
  obtain ⟨v33, e34, hf⟩ := pm_bd hf
  refine pm_getR C dX9_exportOne_64 flX9_19 rfl k32 e34 ?_
  obtain ⟨k35, hf⟩ := pm_if hf
  obtain ⟨v36, e37, hf⟩ := pm_bd hf
  refine pm_getR C dX9_exportOne_67 flX9_211 rfl k35 e37 ?_
  refine pm_iload_n C dX9_exportOne_70 rfl rfl ?_
  refine pm_iconst (v := 3) C dX9_exportOne_71 (by decide) ?_
  refine pm_iadd C dX9_exportOne_72 ?_
  refine pm_aload_n C dX9_exportOne_73 rfl rfl ?_
  refine pm_bipush (v := 32) C dX9_exportOne_74 (by decide) ?_
  obtain ⟨v38, e39, hf⟩ := pm_bd hf
  refine pm_callV (as := [.int 32]) (st := [.int (y2 + 3), .ref v36]) C X dX9_exportOne_76 lnX9_145 myX9_number viX9_number ⟨by decide, by decide⟩ rfl rfl k32 (Nat.le_of_ble_eq_true rfl) (Nat.le_refl _) (Nat.le_refl _) (ctX9_number e39 ?_)
  show pm_G g 79 [(2, .int v4.1), (1, .int y2), (0, .ref a0)] [.long v38.1, .int (y2 + 3), .ref v36] v38.2 0 0
  obtain ⟨v40, e41, hf⟩ := pm_lt hf
  refine pm_callS (as := [.long v38.1]) (st := [.int (y2 + 3), .ref v36]) C X dX9_exportOne_79 lnX9_247 myX12_index stX12_index ⟨by decide, by decide⟩ rfl rfl (Nat.le_of_ble_eq_true rfl) (Nat.le_refl _) (Nat.le_refl _) (ctX12_index e41 ?_)
  show pm_G g 82 [(2, .int v4.1), (1, .int y2), (0, .ref a0)] [.int v40, .int (y2 + 3), .ref v36] v38.2 0 0
  obtain ⟨v42, e43, hf⟩ := pm_bd hf
  refine pm_callS (as := [.ref v36, .int (y2 + 3), .int v40]) (st := []) C X dX9_exportOne_82 lnX9_152 myX12_setItem stX12_setItem ⟨by decide, by decide⟩ rfl rfl (Nat.le_of_ble_eq_true rfl) (Nat.le_refl _) (Nat.le_refl _) (ctX12_setItem e43 ?_)
  show pm_G g 85 [(2, .int v4.1), (1, .int y2), (0, .ref a0)] [] v42 0 0
  cases hf
  exact pm_vret C X dX9_exportOne_85 rfl (Nat.le_refl _) (Nat.le_refl _) q
theorem dX9_importOne_0 : decode cX9_importOne 0 = .ok (.aload_n 0, 1) := by decide +kernel
theorem dX9_importOne_1 : decode cX9_importOne 1 = .ok (.invokevirtual 156, 3) := by decide +kernel
theorem dX9_importOne_4 : decode cX9_importOne 4 = .ok (.pop, 1) := by decide +kernel
theorem dX9_importOne_5 : decode cX9_importOne 5 = .ok (.aload_n 0, 1) := by decide +kernel
theorem dX9_importOne_6 : decode cX9_importOne 6 = .ok (.invokevirtual 156, 3) := by decide +kernel
theorem dX9_importOne_9 : decode cX9_importOne 9 = .ok (.pop, 1) := by decide +kernel
theorem dX9_importOne_10 : decode cX9_importOne 10 = .ok (.aload_n 0, 1) := by decide +kernel
theorem dX9_importOne_11 : decode cX9_importOne 11 = .ok (.iconst 3, 1) := by decide +kernel
theorem dX9_importOne_12 : decode cX9_importOne 12 = .ok (.invokevirtual 228, 3) := by decide +kernel
theorem dX9_importOne_15 : decode cX9_importOne 15 = .ok (.istore_n 1, 1) := by decide +kernel
theorem dX9_importOne_16 : decode cX9_importOne 16 = .ok (.aload_n 0, 1) := by decide +kernel
theorem dX9_importOne_17 : decode cX9_importOne 17 = .ok (.aload_n 0, 1) := by decide +kernel
theorem dX9_importOne_18 : decode cX9_importOne 18 = .ok (.getfield 19, 3) := by decide +kernel
theorem dX9_importOne_21 : decode cX9_importOne 21 = .ok (.getfield 207, 3) := by decide +kernel
theorem dX9_importOne_24 : decode cX9_importOne 24 = .ok (.aload_n 0, 1) := by decide +kernel
theorem dX9_importOne_25 : decode cX9_importOne 25 = .ok (.getfield 133, 3) := by decide +kernel
theorem dX9_importOne_28 : decode cX9_importOne 28 = .ok (.bipush 6, 2) := by decide +kernel
theorem dX9_importOne_30 : decode cX9_importOne 30 = .ok (.imul, 1) := by decide +kernel
theorem dX9_importOne_31 : decode cX9_importOne 31 = .ok (.iload_n 1, 1) := by decide +kernel
theorem dX9_importOne_32 : decode cX9_importOne 32 = .ok (.invokevirtual 231, 3) := by decide +kernel
theorem dX9_importOne_35 : decode cX9_importOne 35 = .ok (.return_, 1) := by decide +kernel
noncomputable def fX9_importOne (h : pm_H) (a0 : Nat) : Option pm_H := if pm_kd h a0 = 9 then (fX9_name h a0).bind fun v2 => if pm_kd v2.2 a0 = 9 then (fX9_name v2.2 a0).bind fun v5 => if pm_kd v5.2 a0 = 9 then (fX9_nextUpTo v5.2 a0 3).bind fun v8 => if pm_kd v8.2 a0 = 9 then (pm_R v8.2 a0 0).bind fun v11 => if pm_kd v8.2 v11 = 7 then (pm_R v8.2 v11 3).bind fun v14 => (fX9_describe v8.2 a0 v14 ((pm_I v8.2 a0 15) * 6) v8.1).bind fun v16 => some v16 else none else none else none else none else none
set_option maxHeartbeats 4000000 in
set_option maxRecDepth 100000 in
theorem ctX9_importOne {l : Launch} {G : pm_Gl} {h : pm_H} {a0 : Nat} {r : pm_H} {Qr : Option Value → pm_H → Prop} (hf : fX9_importOne h a0 = some r) (q : Qr none r) : pm_Ct l G mX9_importOne [.ref a0] h 0 0 Qr := by
  refine pm_body pnX9 (Nat.le_of_ble_eq_true rfl) (fun g C X => ?_)
  have C : pm_C g cX9_importOne RX9 := C
  show pm_G g 0 [(0, .ref a0)] [] h 0 0
  unfold fX9_importOne at hf
  refine pm_aload_n C dX9_importOne_0 rfl rfl ?_
  obtain ⟨k1, hf⟩ := pm_if hf
  obtain ⟨v2, e3, hf⟩ := pm_bd hf
  refine pm_callV (as := []) (st := []) C X dX9_importOne_1 lnX9_156 myX9_name viX9_name ⟨by decide, by decide⟩ rfl rfl k1 (Nat.le_of_ble_eq_true rfl) (Nat.le_refl _) (Nat.le_refl _) (ctX9_name e3 ?_)
  show pm_G g 4 [(0, .ref a0)] [.int v2.1] v2.2 0 0
  refine pm_pop C dX9_importOne_4 rfl ?_
  refine pm_aload_n C dX9_importOne_5 rfl rfl ?_
  obtain ⟨k4, hf⟩ := pm_if hf
  obtain ⟨v5, e6, hf⟩ := pm_bd hf
  refine pm_callV (as := []) (st := []) C X dX9_importOne_6 lnX9_156 myX9_name viX9_name ⟨by decide, by decide⟩ rfl rfl k4 (Nat.le_of_ble_eq_true rfl) (Nat.le_refl _) (Nat.le_refl _) (ctX9_name e6 ?_)
  show pm_G g 9 [(0, .ref a0)] [.int v5.1] v5.2 0 0
  refine pm_pop C dX9_importOne_9 rfl ?_
  refine pm_aload_n C dX9_importOne_10 rfl rfl ?_
  refine pm_iconst (v := 3) C dX9_importOne_11 (by decide) ?_
  obtain ⟨k7, hf⟩ := pm_if hf
  obtain ⟨v8, e9, hf⟩ := pm_bd hf
  refine pm_callV (as := [.int 3]) (st := []) C X dX9_importOne_12 lnX9_228 myX9_nextUpTo viX9_nextUpTo ⟨by decide, by decide⟩ rfl rfl k7 (Nat.le_of_ble_eq_true rfl) (Nat.le_refl _) (Nat.le_refl _) (ctX9_nextUpTo e9 ?_)
  show pm_G g 15 [(0, .ref a0)] [.int v8.1] v8.2 0 0
  refine pm_istore_n (lv' := [(1, .int v8.1), (0, .ref a0)]) C dX9_importOne_15 rfl (pm_nl X (by decide)) rfl ?_
  refine pm_aload_n C dX9_importOne_16 rfl rfl ?_
  refine pm_aload_n C dX9_importOne_17 rfl rfl ?_
  obtain ⟨k10, hf⟩ := pm_if hf
  obtain ⟨v11, e12, hf⟩ := pm_bd hf
  refine pm_getR C dX9_importOne_18 flX9_19 rfl k10 e12 ?_
  obtain ⟨k13, hf⟩ := pm_if hf
  obtain ⟨v14, e15, hf⟩ := pm_bd hf
  refine pm_getR C dX9_importOne_21 flX9_207 rfl k13 e15 ?_
  refine pm_aload_n C dX9_importOne_24 rfl rfl ?_
  refine pm_getI C dX9_importOne_25 flX9_133 rfl k10 rfl ?_
  refine pm_bipush (v := 6) C dX9_importOne_28 (by decide) ?_
  refine pm_imul C dX9_importOne_30 ?_
  refine pm_iload_n C dX9_importOne_31 rfl rfl ?_
  obtain ⟨v16, e17, hf⟩ := pm_bd hf
  refine pm_callV (as := [.ref v14, .int ((pm_I v8.2 a0 15) * 6), .int v8.1]) (st := []) C X dX9_importOne_32 lnX9_231 myX9_describe viX9_describe ⟨by decide, by decide⟩ rfl rfl k10 (Nat.le_of_ble_eq_true rfl) (Nat.le_refl _) (Nat.le_refl _) (ctX9_describe e17 ?_)
  show pm_G g 35 [(1, .int v8.1), (0, .ref a0)] [] v16 0 0
  cases hf
  exact pm_vret C X dX9_importOne_35 rfl (Nat.le_refl _) (Nat.le_refl _) q
theorem dX9_instruction_0 : decode cX9_instruction 0 = .ok (.aload_n 0, 1) := by decide +kernel
theorem dX9_instruction_1 : decode cX9_instruction 1 = .ok (.aload_n 0, 1) := by decide +kernel
theorem dX9_instruction_2 : decode cX9_instruction 2 = .ok (.getfield 51, 3) := by decide +kernel
theorem dX9_instruction_5 : decode cX9_instruction 5 = .ok (.putfield 276, 3) := by decide +kernel
theorem dX9_instruction_8 : decode cX9_instruction 8 = .ok (.aload_n 0, 1) := by decide +kernel
theorem dX9_instruction_9 : decode cX9_instruction 9 = .ok (.aload_n 0, 1) := by decide +kernel
theorem dX9_instruction_10 : decode cX9_instruction 10 = .ok (.invokevirtual 43, 3) := by decide +kernel
theorem dX9_instruction_13 : decode cX9_instruction 13 = .ok (.putfield 273, 3) := by decide +kernel
theorem dX9_instruction_16 : decode cX9_instruction 16 = .ok (.aload_n 0, 1) := by decide +kernel
theorem dX9_instruction_17 : decode cX9_instruction 17 = .ok (.lconst 0, 1) := by decide +kernel
theorem dX9_instruction_18 : decode cX9_instruction 18 = .ok (.putfield 279, 3) := by decide +kernel
theorem dX9_instruction_21 : decode cX9_instruction 21 = .ok (.aload_n 0, 1) := by decide +kernel
theorem dX9_instruction_22 : decode cX9_instruction 22 = .ok (.lconst 0, 1) := by decide +kernel
theorem dX9_instruction_23 : decode cX9_instruction 23 = .ok (.putfield 282, 3) := by decide +kernel
theorem dX9_instruction_26 : decode cX9_instruction 26 = .ok (.aload_n 0, 1) := by decide +kernel
theorem dX9_instruction_27 : decode cX9_instruction 27 = .ok (.getfield 273, 3) := by decide +kernel
theorem dX9_instruction_30 : decode cX9_instruction 30 = .ok (.bipush 69, 2) := by decide +kernel
theorem dX9_instruction_32 : decode cX9_instruction 32 = .ok (.if_icmp .lt 14, 3) := by decide +kernel
theorem dX9_instruction_35 : decode cX9_instruction 35 = .ok (.aload_n 0, 1) := by decide +kernel
theorem dX9_instruction_36 : decode cX9_instruction 36 = .ok (.getfield 273, 3) := by decide +kernel
theorem dX9_instruction_39 : decode cX9_instruction 39 = .ok (.sipush 196, 3) := by decide +kernel
theorem dX9_instruction_42 : decode cX9_instruction 42 = .ok (.if_icmp .gt 4, 3) := by decide +kernel
theorem dX9_instruction_45 : decode cX9_instruction 45 = .ok (.return_, 1) := by decide +kernel
theorem dX9_instruction_46 : decode cX9_instruction 46 = .ok (.aload_n 0, 1) := by decide +kernel
theorem dX9_instruction_47 : decode cX9_instruction 47 = .ok (.getfield 273, 3) := by decide +kernel
theorem dX9_instruction_50 : decode cX9_instruction 50 = .ok (.bipush 40, 2) := by decide +kernel
theorem dX9_instruction_52 : decode cX9_instruction 52 = .ok (.if_icmp .lt 12, 3) := by decide +kernel
theorem dX9_instruction_55 : decode cX9_instruction 55 = .ok (.aload_n 0, 1) := by decide +kernel
theorem dX9_instruction_56 : decode cX9_instruction 56 = .ok (.getfield 273, 3) := by decide +kernel
theorem dX9_instruction_59 : decode cX9_instruction 59 = .ok (.bipush 62, 2) := by decide +kernel
theorem dX9_instruction_61 : decode cX9_instruction 61 = .ok (.if_icmp .le 12, 3) := by decide +kernel
theorem dX9_instruction_64 : decode cX9_instruction 64 = .ok (.aload_n 0, 1) := by decide +kernel
theorem dX9_instruction_65 : decode cX9_instruction 65 = .ok (.getfield 273, 3) := by decide +kernel
theorem dX9_instruction_68 : decode cX9_instruction 68 = .ok (.bipush 17, 2) := by decide +kernel
theorem dX9_instruction_70 : decode cX9_instruction 70 = .ok (.if_icmp .ne 24, 3) := by decide +kernel
theorem dX9_instruction_73 : decode cX9_instruction 73 = .ok (.aload_n 0, 1) := by decide +kernel
theorem dX9_instruction_74 : decode cX9_instruction 74 = .ok (.aload_n 0, 1) := by decide +kernel
theorem dX9_instruction_75 : decode cX9_instruction 75 = .ok (.bipush 32, 2) := by decide +kernel
theorem dX9_instruction_77 : decode cX9_instruction 77 = .ok (.invokevirtual 145, 3) := by decide +kernel
theorem dX9_instruction_80 : decode cX9_instruction 80 = .ok (.putfield 279, 3) := by decide +kernel
theorem dX9_instruction_83 : decode cX9_instruction 83 = .ok (.aload_n 0, 1) := by decide +kernel
theorem dX9_instruction_84 : decode cX9_instruction 84 = .ok (.aload_n 0, 1) := by decide +kernel
theorem dX9_instruction_85 : decode cX9_instruction 85 = .ok (.bipush 32, 2) := by decide +kernel
theorem dX9_instruction_87 : decode cX9_instruction 87 = .ok (.invokevirtual 145, 3) := by decide +kernel
theorem dX9_instruction_90 : decode cX9_instruction 90 = .ok (.putfield 282, 3) := by decide +kernel
theorem dX9_instruction_93 : decode cX9_instruction 93 = .ok (.return_, 1) := by decide +kernel
theorem dX9_instruction_94 : decode cX9_instruction 94 = .ok (.aload_n 0, 1) := by decide +kernel
theorem dX9_instruction_95 : decode cX9_instruction 95 = .ok (.getfield 273, 3) := by decide +kernel
theorem dX9_instruction_98 : decode cX9_instruction 98 = .ok (.bipush 32, 2) := by decide +kernel
theorem dX9_instruction_100 : decode cX9_instruction 100 = .ok (.if_icmp .lt 23, 3) := by decide +kernel
theorem dX9_instruction_103 : decode cX9_instruction 103 = .ok (.aload_n 0, 1) := by decide +kernel
theorem dX9_instruction_104 : decode cX9_instruction 104 = .ok (.getfield 273, 3) := by decide +kernel
theorem dX9_instruction_107 : decode cX9_instruction 107 = .ok (.bipush 38, 2) := by decide +kernel
theorem dX9_instruction_109 : decode cX9_instruction 109 = .ok (.if_icmp .gt 14, 3) := by decide +kernel
theorem dX9_instruction_112 : decode cX9_instruction 112 = .ok (.aload_n 0, 1) := by decide +kernel
theorem dX9_instruction_113 : decode cX9_instruction 113 = .ok (.aload_n 0, 1) := by decide +kernel
theorem dX9_instruction_114 : decode cX9_instruction 114 = .ok (.bipush 32, 2) := by decide +kernel
theorem dX9_instruction_116 : decode cX9_instruction 116 = .ok (.invokevirtual 145, 3) := by decide +kernel
theorem dX9_instruction_119 : decode cX9_instruction 119 = .ok (.putfield 279, 3) := by decide +kernel
theorem dX9_instruction_122 : decode cX9_instruction 122 = .ok (.return_, 1) := by decide +kernel
theorem dX9_instruction_123 : decode cX9_instruction 123 = .ok (.aload_n 0, 1) := by decide +kernel
theorem dX9_instruction_124 : decode cX9_instruction 124 = .ok (.getfield 273, 3) := by decide +kernel
theorem dX9_instruction_127 : decode cX9_instruction 127 = .ok (.lookupswitch 333 #[(0, 209), (1, 209), (2, 212), (3, 212), (4, 212), (5, 209), (11, 209), (12, 223), (13, 223), (14, 236), (15, 209), (16, 223), (26, 209), (27, 209), (28, 243), (63, 250), (64, 250), (65, 259), (66, 276), (67, 289), (68, 301), (208, 314), (209, 209), (210, 223), (252, 326)], 209) := by decide +kernel
theorem dX9_instruction_336 : decode cX9_instruction 336 = .ok (.goto 134, 3) := by decide +kernel
theorem dX9_instruction_339 : decode cX9_instruction 339 = .ok (.aload_n 0, 1) := by decide +kernel
theorem dX9_instruction_340 : decode cX9_instruction 340 = .ok (.aload_n 0, 1) := by decide +kernel
theorem dX9_instruction_341 : decode cX9_instruction 341 = .ok (.invokevirtual 285, 3) := by decide +kernel
theorem dX9_instruction_344 : decode cX9_instruction 344 = .ok (.putfield 279, 3) := by decide +kernel
theorem dX9_instruction_347 : decode cX9_instruction 347 = .ok (.goto 123, 3) := by decide +kernel
theorem dX9_instruction_350 : decode cX9_instruction 350 = .ok (.aload_n 0, 1) := by decide +kernel
theorem dX9_instruction_351 : decode cX9_instruction 351 = .ok (.aload_n 0, 1) := by decide +kernel
theorem dX9_instruction_352 : decode cX9_instruction 352 = .ok (.bipush 32, 2) := by decide +kernel
theorem dX9_instruction_354 : decode cX9_instruction 354 = .ok (.invokevirtual 145, 3) := by decide +kernel
theorem dX9_instruction_357 : decode cX9_instruction 357 = .ok (.putfield 279, 3) := by decide +kernel
theorem dX9_instruction_360 : decode cX9_instruction 360 = .ok (.goto 110, 3) := by decide +kernel
theorem dX9_instruction_363 : decode cX9_instruction 363 = .ok (.aload_n 0, 1) := by decide +kernel
theorem dX9_instruction_364 : decode cX9_instruction 364 = .ok (.invokevirtual 289, 3) := by decide +kernel
theorem dX9_instruction_367 : decode cX9_instruction 367 = .ok (.goto 103, 3) := by decide +kernel
theorem dX9_instruction_370 : decode cX9_instruction 370 = .ok (.aload_n 0, 1) := by decide +kernel
theorem dX9_instruction_371 : decode cX9_instruction 371 = .ok (.invokevirtual 292, 3) := by decide +kernel
theorem dX9_instruction_374 : decode cX9_instruction 374 = .ok (.goto 96, 3) := by decide +kernel
theorem dX9_instruction_377 : decode cX9_instruction 377 = .ok (.aload_n 0, 1) := by decide +kernel
theorem dX9_instruction_378 : decode cX9_instruction 378 = .ok (.iconst 0, 1) := by decide +kernel
theorem dX9_instruction_379 : decode cX9_instruction 379 = .ok (.invokevirtual 228, 3) := by decide +kernel
theorem dX9_instruction_382 : decode cX9_instruction 382 = .ok (.pop, 1) := by decide +kernel
theorem dX9_instruction_383 : decode cX9_instruction 383 = .ok (.goto 87, 3) := by decide +kernel
theorem dX9_instruction_386 : decode cX9_instruction 386 = .ok (.aload_n 0, 1) := by decide +kernel
theorem dX9_instruction_387 : decode cX9_instruction 387 = .ok (.aload_n 0, 1) := by decide +kernel
theorem dX9_instruction_388 : decode cX9_instruction 388 = .ok (.bipush (-32), 2) := by decide +kernel
theorem dX9_instruction_390 : decode cX9_instruction 390 = .ok (.invokevirtual 145, 3) := by decide +kernel
theorem dX9_instruction_393 : decode cX9_instruction 393 = .ok (.ldc2_w 257, 3) := by decide +kernel
theorem dX9_instruction_396 : decode cX9_instruction 396 = .ok (.land, 1) := by decide +kernel
theorem dX9_instruction_397 : decode cX9_instruction 397 = .ok (.putfield 279, 3) := by decide +kernel
theorem dX9_instruction_400 : decode cX9_instruction 400 = .ok (.goto 70, 3) := by decide +kernel
theorem dX9_instruction_403 : decode cX9_instruction 403 = .ok (.aload_n 0, 1) := by decide +kernel
theorem dX9_instruction_404 : decode cX9_instruction 404 = .ok (.aload_n 0, 1) := by decide +kernel
theorem dX9_instruction_405 : decode cX9_instruction 405 = .ok (.bipush (-64), 2) := by decide +kernel
theorem dX9_instruction_407 : decode cX9_instruction 407 = .ok (.invokevirtual 145, 3) := by decide +kernel
theorem dX9_instruction_410 : decode cX9_instruction 410 = .ok (.putfield 279, 3) := by decide +kernel
theorem dX9_instruction_413 : decode cX9_instruction 413 = .ok (.goto 57, 3) := by decide +kernel
theorem dX9_instruction_416 : decode cX9_instruction 416 = .ok (.aload_n 0, 1) := by decide +kernel
theorem dX9_instruction_417 : decode cX9_instruction 417 = .ok (.aload_n 0, 1) := by decide +kernel
theorem dX9_instruction_418 : decode cX9_instruction 418 = .ok (.iconst 4, 1) := by decide +kernel
theorem dX9_instruction_419 : decode cX9_instruction 419 = .ok (.invokevirtual 295, 3) := by decide +kernel
theorem dX9_instruction_422 : decode cX9_instruction 422 = .ok (.putfield 279, 3) := by decide +kernel
theorem dX9_instruction_425 : decode cX9_instruction 425 = .ok (.goto 45, 3) := by decide +kernel
theorem dX9_instruction_428 : decode cX9_instruction 428 = .ok (.aload_n 0, 1) := by decide +kernel
theorem dX9_instruction_429 : decode cX9_instruction 429 = .ok (.aload_n 0, 1) := by decide +kernel
theorem dX9_instruction_430 : decode cX9_instruction 430 = .ok (.bipush 8, 2) := by decide +kernel
theorem dX9_instruction_432 : decode cX9_instruction 432 = .ok (.invokevirtual 295, 3) := by decide +kernel
theorem dX9_instruction_435 : decode cX9_instruction 435 = .ok (.putfield 279, 3) := by decide +kernel
theorem dX9_instruction_438 : decode cX9_instruction 438 = .ok (.goto 32, 3) := by decide +kernel
theorem dX9_instruction_441 : decode cX9_instruction 441 = .ok (.aload_n 0, 1) := by decide +kernel
theorem dX9_instruction_442 : decode cX9_instruction 442 = .ok (.aload_n 0, 1) := by decide +kernel
theorem dX9_instruction_443 : decode cX9_instruction 443 = .ok (.invokevirtual 244, 3) := by decide +kernel
theorem dX9_instruction_446 : decode cX9_instruction 446 = .ok (.i2l, 1) := by decide +kernel
theorem dX9_instruction_447 : decode cX9_instruction 447 = .ok (.putfield 279, 3) := by decide +kernel
theorem dX9_instruction_450 : decode cX9_instruction 450 = .ok (.goto 20, 3) := by decide +kernel
theorem dX9_instruction_453 : decode cX9_instruction 453 = .ok (.aload_n 0, 1) := by decide +kernel
theorem dX9_instruction_454 : decode cX9_instruction 454 = .ok (.invokevirtual 298, 3) := by decide +kernel
theorem dX9_instruction_457 : decode cX9_instruction 457 = .ok (.goto 13, 3) := by decide +kernel
theorem dX9_instruction_460 : decode cX9_instruction 460 = .ok (.aload_n 0, 1) := by decide +kernel
theorem dX9_instruction_461 : decode cX9_instruction 461 = .ok (.bipush 10, 2) := by decide +kernel
theorem dX9_instruction_463 : decode cX9_instruction 463 = .ok (.aload_n 0, 1) := by decide +kernel
theorem dX9_instruction_464 : decode cX9_instruction 464 = .ok (.getfield 276, 3) := by decide +kernel
theorem dX9_instruction_467 : decode cX9_instruction 467 = .ok (.invokevirtual 47, 3) := by decide +kernel
theorem dX9_instruction_470 : decode cX9_instruction 470 = .ok (.return_, 1) := by decide +kernel
noncomputable def fX9_instruction_b123 (h : pm_H) (x0 : Nat) : Option pm_H := if pm_kd h x0 = 9 then pm_let (pm_I h x0 6) fun y32 => if y32 = 0 then (some h) else (if y32 = 1 then (some h) else (if y32 = 2 then ((fX9_blockType h x0).bind fun v37 => if pm_kd v37.2 x0 = 9 then some (pm_setL v37.2 x0 8 v37.1) else none) else (if y32 = 3 then ((fX9_blockType h x0).bind fun v41 => if pm_kd v41.2 x0 = 9 then some (pm_setL v41.2 x0 8 v41.1) else none) else (if y32 = 4 then ((fX9_blockType h x0).bind fun v45 => if pm_kd v45.2 x0 = 9 then some (pm_setL v45.2 x0 8 v45.1) else none) else (if y32 = 5 then (some h) else (if y32 = 11 then (some h) else (if y32 = 12 then ((fX9_number h x0 32).bind fun v51 => if pm_kd v51.2 x0 = 9 then some (pm_setL v51.2 x0 8 v51.1) else none) else (if y32 = 13 then ((fX9_number h x0 32).bind fun v55 => if pm_kd v55.2 x0 = 9 then some (pm_setL v55.2 x0 8 v55.1) else none) else (if y32 = 14 then ((fX9_labels h x0).bind fun v59 => some v59) else (if y32 = 15 then (some h) else (if y32 = 16 then ((fX9_number h x0 32).bind fun v63 => if pm_kd v63.2 x0 = 9 then some (pm_setL v63.2 x0 8 v63.1) else none) else (if y32 = 26 then (some h) else (if y32 = 27 then (some h) else (if y32 = 28 then ((fX9_selected h x0).bind fun v69 => some v69) else (if y32 = 63 then ((fX9_nextUpTo h x0 0).bind fun v72 => some v72.2) else (if y32 = 64 then ((fX9_nextUpTo h x0 0).bind fun v75 => some v75.2) else (if y32 = 65 then ((fX9_number h x0 (-32)).bind fun v78 => pm_let (v78.1 &&& 4294967295) fun y80 => if pm_kd v78.2 x0 = 9 then some (pm_setL v78.2 x0 8 y80) else none) else (if y32 = 66 then ((fX9_number h x0 (-64)).bind fun v84 => if pm_kd v84.2 x0 = 9 then some (pm_setL v84.2 x0 8 v84.1) else none) else (if y32 = 67 then ((fX9_lowestFirst h x0 4).bind fun v88 => if pm_kd v88.2 x0 = 9 then some (pm_setL v88.2 x0 8 v88.1) else none) else (if y32 = 68 then ((fX9_lowestFirst h x0 8).bind fun v92 => if pm_kd v92.2 x0 = 9 then some (pm_setL v92.2 x0 8 v92.1) else none) else (if y32 = 208 then ((fX9_referenceType h x0).bind fun v96 => if pm_kd v96.2 x0 = 9 then some (pm_setL v96.2 x0 8 v96.1.toInt64) else none) else (if y32 = 209 then (some h) else (if y32 = 210 then ((fX9_number h x0 32).bind fun v101 => if pm_kd v101.2 x0 = 9 then some (pm_setL v101.2 x0 8 v101.1) else none) else (if y32 = 252 then ((fX9_longInstruction h x0).bind fun v105 => some v105) else ((fX9_fail h x0 10 (pm_I h x0 7)).bind fun v107 => some v107))))))))))))))))))))))))) else none
noncomputable def fX9_instruction_b64 (h : pm_H) (x0 : Nat) : Option pm_H := if pm_kd h x0 = 9 then if (pm_I h x0 6) = 17 then ((fX9_number h x0 32).bind fun v25 => if pm_kd v25.2 x0 = 9 then (fX9_number (pm_setL v25.2 x0 8 v25.1) x0 32).bind fun v28 => if pm_kd v28.2 x0 = 9 then some (pm_setL v28.2 x0 9 v28.1) else none else none) else (if (pm_I h x0 6) < 32 then (fX9_instruction_b123 h x0) else (if 38 < (pm_I h x0 6) then (fX9_instruction_b123 h x0) else ((fX9_number h x0 32).bind fun v22 => if pm_kd v22.2 x0 = 9 then some (pm_setL v22.2 x0 8 v22.1) else none))) else none
noncomputable def fX9_instruction_b46 (h : pm_H) (x0 : Nat) : Option pm_H := if pm_kd h x0 = 9 then if (pm_I h x0 6) < 40 then (fX9_instruction_b64 h x0) else (if (pm_I h x0 6) ≤ 62 then ((fX9_number h x0 32).bind fun v12 => if pm_kd v12.2 x0 = 9 then (fX9_number (pm_setL v12.2 x0 8 v12.1) x0 32).bind fun v15 => if pm_kd v15.2 x0 = 9 then some (pm_setL v15.2 x0 9 v15.1) else none else none) else (fX9_instruction_b64 h x0)) else none
noncomputable def fX9_instruction (h : pm_H) (a0 : Nat) : Option pm_H := if pm_kd h a0 = 9 then pm_let (pm_I h a0 1) fun y2 => (fX9_next (pm_setI h a0 7 y2) a0).bind fun v4 => if pm_kd v4.2 a0 = 9 then if (pm_I (pm_setL (pm_setL (pm_setI v4.2 a0 6 v4.1) a0 8 0) a0 9 0) a0 6) < 69 then (fX9_instruction_b46 (pm_setL (pm_setL (pm_setI v4.2 a0 6 v4.1) a0 8 0) a0 9 0) a0) else (if 196 < (pm_I (pm_setL (pm_setL (pm_setI v4.2 a0 6 v4.1) a0 8 0) a0 9 0) a0 6) then (fX9_instruction_b46 (pm_setL (pm_setL (pm_setI v4.2 a0 6 v4.1) a0 8 0) a0 9 0) a0) else (some (pm_setL (pm_setL (pm_setI v4.2 a0 6 v4.1) a0 8 0) a0 9 0))) else none else none
set_option maxHeartbeats 4000000 in
set_option maxRecDepth 100000 in
theorem bX9_instruction_123 {g : pm_Gm} {l : Launch} {G : pm_Gl} {Qr : Option Value → pm_H → Prop} (C : pm_C g cX9_instruction RX9) (X : pm_X g l G mX9_instruction 0 0 Qr) {h : pm_H} {x0 : Nat} {r : pm_H} (hf : fX9_instruction_b123 h x0 = some r) (q : Qr none r) : pm_G g 123 [(0, .ref x0)] [] h 0 0 := by
  unfold fX9_instruction_b123 at hf
  refine pm_aload_n C dX9_instruction_123 rfl rfl ?_
  obtain ⟨k31, hf⟩ := pm_if hf
  refine pm_getI C dX9_instruction_124 flX9_273 rfl k31 rfl ?_
  obtain ⟨y32, e33, hf⟩ := pm_lt hf
  refine pm_topI e33 ?_
  by_cases c34 : y32 = 0
  · have hf := pm_it hf c34
    refine pm_lookup (off := 209) (tgt := 336) C dX9_instruction_127 (by decide) (by rw [c34]; first | done | decide | rfl) (by decide) ?_
    refine pm_goto (tgt := 470) C dX9_instruction_336 (by decide) ?_
    cases hf
    exact pm_vret C X dX9_instruction_470 rfl (Nat.le_refl _) (Nat.le_refl _) q
  have hf := pm_ie hf c34
  by_cases c35 : y32 = 1
  · have hf := pm_it hf c35
    refine pm_lookup (off := 209) (tgt := 336) C dX9_instruction_127 (by decide) (by rw [c35]; first | done | decide | rfl) (by decide) ?_
    refine pm_goto (tgt := 470) C dX9_instruction_336 (by decide) ?_
    cases hf
    exact pm_vret C X dX9_instruction_470 rfl (Nat.le_refl _) (Nat.le_refl _) q
  have hf := pm_ie hf c35
  by_cases c36 : y32 = 2
  · have hf := pm_it hf c36
    refine pm_lookup (off := 212) (tgt := 339) C dX9_instruction_127 (by decide) (by rw [c36]; first | done | decide | rfl) (by decide) ?_
    refine pm_aload_n C dX9_instruction_339 rfl rfl ?_
    refine pm_aload_n C dX9_instruction_340 rfl rfl ?_
    obtain ⟨v37, e38, hf⟩ := pm_bd hf
    refine pm_callV (as := []) (st := [.ref x0]) C X dX9_instruction_341 lnX9_285 myX9_blockType viX9_blockType ⟨by decide, by decide⟩ rfl rfl k31 (Nat.le_of_ble_eq_true rfl) (Nat.le_refl _) (Nat.le_refl _) (ctX9_blockType e38 ?_)
    show pm_G g 344 [(0, .ref x0)] [.long v37.1, .ref x0] v37.2 0 0
    obtain ⟨k39, hf⟩ := pm_if hf
    refine pm_putL C dX9_instruction_344 flX9_279 rfl rfl k39 ?_
    refine pm_goto (tgt := 470) C dX9_instruction_347 (by decide) ?_
    cases hf
    exact pm_vret C X dX9_instruction_470 rfl (Nat.le_refl _) (Nat.le_refl _) q
  have hf := pm_ie hf c36
  by_cases c40 : y32 = 3
  · have hf := pm_it hf c40
    refine pm_lookup (off := 212) (tgt := 339) C dX9_instruction_127 (by decide) (by rw [c40]; first | done | decide | rfl) (by decide) ?_
    refine pm_aload_n C dX9_instruction_339 rfl rfl ?_
    refine pm_aload_n C dX9_instruction_340 rfl rfl ?_
    obtain ⟨v41, e42, hf⟩ := pm_bd hf
    refine pm_callV (as := []) (st := [.ref x0]) C X dX9_instruction_341 lnX9_285 myX9_blockType viX9_blockType ⟨by decide, by decide⟩ rfl rfl k31 (Nat.le_of_ble_eq_true rfl) (Nat.le_refl _) (Nat.le_refl _) (ctX9_blockType e42 ?_)
    show pm_G g 344 [(0, .ref x0)] [.long v41.1, .ref x0] v41.2 0 0
    obtain ⟨k43, hf⟩ := pm_if hf
    refine pm_putL C dX9_instruction_344 flX9_279 rfl rfl k43 ?_
    refine pm_goto (tgt := 470) C dX9_instruction_347 (by decide) ?_
    cases hf
    exact pm_vret C X dX9_instruction_470 rfl (Nat.le_refl _) (Nat.le_refl _) q
  have hf := pm_ie hf c40
  by_cases c44 : y32 = 4
  · have hf := pm_it hf c44
    refine pm_lookup (off := 212) (tgt := 339) C dX9_instruction_127 (by decide) (by rw [c44]; first | done | decide | rfl) (by decide) ?_
    refine pm_aload_n C dX9_instruction_339 rfl rfl ?_
    refine pm_aload_n C dX9_instruction_340 rfl rfl ?_
    obtain ⟨v45, e46, hf⟩ := pm_bd hf
    refine pm_callV (as := []) (st := [.ref x0]) C X dX9_instruction_341 lnX9_285 myX9_blockType viX9_blockType ⟨by decide, by decide⟩ rfl rfl k31 (Nat.le_of_ble_eq_true rfl) (Nat.le_refl _) (Nat.le_refl _) (ctX9_blockType e46 ?_)
    show pm_G g 344 [(0, .ref x0)] [.long v45.1, .ref x0] v45.2 0 0
    obtain ⟨k47, hf⟩ := pm_if hf
    refine pm_putL C dX9_instruction_344 flX9_279 rfl rfl k47 ?_
    refine pm_goto (tgt := 470) C dX9_instruction_347 (by decide) ?_
    cases hf
    exact pm_vret C X dX9_instruction_470 rfl (Nat.le_refl _) (Nat.le_refl _) q
  have hf := pm_ie hf c44
  by_cases c48 : y32 = 5
  · have hf := pm_it hf c48
    refine pm_lookup (off := 209) (tgt := 336) C dX9_instruction_127 (by decide) (by rw [c48]; first | done | decide | rfl) (by decide) ?_
    refine pm_goto (tgt := 470) C dX9_instruction_336 (by decide) ?_
    cases hf
    exact pm_vret C X dX9_instruction_470 rfl (Nat.le_refl _) (Nat.le_refl _) q
  have hf := pm_ie hf c48
  by_cases c49 : y32 = 11
  · have hf := pm_it hf c49
    refine pm_lookup (off := 209) (tgt := 336) C dX9_instruction_127 (by decide) (by rw [c49]; first | done | decide | rfl) (by decide) ?_
    refine pm_goto (tgt := 470) C dX9_instruction_336 (by decide) ?_
    cases hf
    exact pm_vret C X dX9_instruction_470 rfl (Nat.le_refl _) (Nat.le_refl _) q
  have hf := pm_ie hf c49
  by_cases c50 : y32 = 12
  · have hf := pm_it hf c50
    refine pm_lookup (off := 223) (tgt := 350) C dX9_instruction_127 (by decide) (by rw [c50]; first | done | decide | rfl) (by decide) ?_
    refine pm_aload_n C dX9_instruction_350 rfl rfl ?_
    refine pm_aload_n C dX9_instruction_351 rfl rfl ?_
    refine pm_bipush (v := 32) C dX9_instruction_352 (by decide) ?_
    obtain ⟨v51, e52, hf⟩ := pm_bd hf
    refine pm_callV (as := [.int 32]) (st := [.ref x0]) C X dX9_instruction_354 lnX9_145 myX9_number viX9_number ⟨by decide, by decide⟩ rfl rfl k31 (Nat.le_of_ble_eq_true rfl) (Nat.le_refl _) (Nat.le_refl _) (ctX9_number e52 ?_)
    show pm_G g 357 [(0, .ref x0)] [.long v51.1, .ref x0] v51.2 0 0
    obtain ⟨k53, hf⟩ := pm_if hf
    refine pm_putL C dX9_instruction_357 flX9_279 rfl rfl k53 ?_
    refine pm_goto (tgt := 470) C dX9_instruction_360 (by decide) ?_
    cases hf
    exact pm_vret C X dX9_instruction_470 rfl (Nat.le_refl _) (Nat.le_refl _) q
  have hf := pm_ie hf c50
  by_cases c54 : y32 = 13
  · have hf := pm_it hf c54
    refine pm_lookup (off := 223) (tgt := 350) C dX9_instruction_127 (by decide) (by rw [c54]; first | done | decide | rfl) (by decide) ?_
    refine pm_aload_n C dX9_instruction_350 rfl rfl ?_
    refine pm_aload_n C dX9_instruction_351 rfl rfl ?_
    refine pm_bipush (v := 32) C dX9_instruction_352 (by decide) ?_
    obtain ⟨v55, e56, hf⟩ := pm_bd hf
    refine pm_callV (as := [.int 32]) (st := [.ref x0]) C X dX9_instruction_354 lnX9_145 myX9_number viX9_number ⟨by decide, by decide⟩ rfl rfl k31 (Nat.le_of_ble_eq_true rfl) (Nat.le_refl _) (Nat.le_refl _) (ctX9_number e56 ?_)
    show pm_G g 357 [(0, .ref x0)] [.long v55.1, .ref x0] v55.2 0 0
    obtain ⟨k57, hf⟩ := pm_if hf
    refine pm_putL C dX9_instruction_357 flX9_279 rfl rfl k57 ?_
    refine pm_goto (tgt := 470) C dX9_instruction_360 (by decide) ?_
    cases hf
    exact pm_vret C X dX9_instruction_470 rfl (Nat.le_refl _) (Nat.le_refl _) q
  have hf := pm_ie hf c54
  by_cases c58 : y32 = 14
  · have hf := pm_it hf c58
    refine pm_lookup (off := 236) (tgt := 363) C dX9_instruction_127 (by decide) (by rw [c58]; first | done | decide | rfl) (by decide) ?_
    refine pm_aload_n C dX9_instruction_363 rfl rfl ?_
    obtain ⟨v59, e60, hf⟩ := pm_bd hf
    refine pm_callV (as := []) (st := []) C X dX9_instruction_364 lnX9_289 myX9_labels viX9_labels ⟨by decide, by decide⟩ rfl rfl k31 (Nat.le_of_ble_eq_true rfl) (Nat.le_refl _) (Nat.le_refl _) (ctX9_labels e60 ?_)
    show pm_G g 367 [(0, .ref x0)] [] v59 0 0
    refine pm_goto (tgt := 470) C dX9_instruction_367 (by decide) ?_
    cases hf
    exact pm_vret C X dX9_instruction_470 rfl (Nat.le_refl _) (Nat.le_refl _) q
  have hf := pm_ie hf c58
  by_cases c61 : y32 = 15
  · have hf := pm_it hf c61
    refine pm_lookup (off := 209) (tgt := 336) C dX9_instruction_127 (by decide) (by rw [c61]; first | done | decide | rfl) (by decide) ?_
    refine pm_goto (tgt := 470) C dX9_instruction_336 (by decide) ?_
    cases hf
    exact pm_vret C X dX9_instruction_470 rfl (Nat.le_refl _) (Nat.le_refl _) q
  have hf := pm_ie hf c61
  by_cases c62 : y32 = 16
  · have hf := pm_it hf c62
    refine pm_lookup (off := 223) (tgt := 350) C dX9_instruction_127 (by decide) (by rw [c62]; first | done | decide | rfl) (by decide) ?_
    refine pm_aload_n C dX9_instruction_350 rfl rfl ?_
    refine pm_aload_n C dX9_instruction_351 rfl rfl ?_
    refine pm_bipush (v := 32) C dX9_instruction_352 (by decide) ?_
    obtain ⟨v63, e64, hf⟩ := pm_bd hf
    refine pm_callV (as := [.int 32]) (st := [.ref x0]) C X dX9_instruction_354 lnX9_145 myX9_number viX9_number ⟨by decide, by decide⟩ rfl rfl k31 (Nat.le_of_ble_eq_true rfl) (Nat.le_refl _) (Nat.le_refl _) (ctX9_number e64 ?_)
    show pm_G g 357 [(0, .ref x0)] [.long v63.1, .ref x0] v63.2 0 0
    obtain ⟨k65, hf⟩ := pm_if hf
    refine pm_putL C dX9_instruction_357 flX9_279 rfl rfl k65 ?_
    refine pm_goto (tgt := 470) C dX9_instruction_360 (by decide) ?_
    cases hf
    exact pm_vret C X dX9_instruction_470 rfl (Nat.le_refl _) (Nat.le_refl _) q
  have hf := pm_ie hf c62
  by_cases c66 : y32 = 26
  · have hf := pm_it hf c66
    refine pm_lookup (off := 209) (tgt := 336) C dX9_instruction_127 (by decide) (by rw [c66]; first | done | decide | rfl) (by decide) ?_
    refine pm_goto (tgt := 470) C dX9_instruction_336 (by decide) ?_
    cases hf
    exact pm_vret C X dX9_instruction_470 rfl (Nat.le_refl _) (Nat.le_refl _) q
  have hf := pm_ie hf c66
  by_cases c67 : y32 = 27
  · have hf := pm_it hf c67
    refine pm_lookup (off := 209) (tgt := 336) C dX9_instruction_127 (by decide) (by rw [c67]; first | done | decide | rfl) (by decide) ?_
    refine pm_goto (tgt := 470) C dX9_instruction_336 (by decide) ?_
    cases hf
    exact pm_vret C X dX9_instruction_470 rfl (Nat.le_refl _) (Nat.le_refl _) q
  have hf := pm_ie hf c67
  by_cases c68 : y32 = 28
  · have hf := pm_it hf c68
    refine pm_lookup (off := 243) (tgt := 370) C dX9_instruction_127 (by decide) (by rw [c68]; first | done | decide | rfl) (by decide) ?_
    refine pm_aload_n C dX9_instruction_370 rfl rfl ?_
    obtain ⟨v69, e70, hf⟩ := pm_bd hf
    refine pm_callV (as := []) (st := []) C X dX9_instruction_371 lnX9_292 myX9_selected viX9_selected ⟨by decide, by decide⟩ rfl rfl k31 (Nat.le_of_ble_eq_true rfl) (Nat.le_refl _) (Nat.le_refl _) (ctX9_selected e70 ?_)
    show pm_G g 374 [(0, .ref x0)] [] v69 0 0
    refine pm_goto (tgt := 470) C dX9_instruction_374 (by decide) ?_
    cases hf
    exact pm_vret C X dX9_instruction_470 rfl (Nat.le_refl _) (Nat.le_refl _) q
  have hf := pm_ie hf c68
  by_cases c71 : y32 = 63
  · have hf := pm_it hf c71
    refine pm_lookup (off := 250) (tgt := 377) C dX9_instruction_127 (by decide) (by rw [c71]; first | done | decide | rfl) (by decide) ?_
    refine pm_aload_n C dX9_instruction_377 rfl rfl ?_
    refine pm_iconst (v := 0) C dX9_instruction_378 (by decide) ?_
    obtain ⟨v72, e73, hf⟩ := pm_bd hf
    refine pm_callV (as := [.int 0]) (st := []) C X dX9_instruction_379 lnX9_228 myX9_nextUpTo viX9_nextUpTo ⟨by decide, by decide⟩ rfl rfl k31 (Nat.le_of_ble_eq_true rfl) (Nat.le_refl _) (Nat.le_refl _) (ctX9_nextUpTo e73 ?_)
    show pm_G g 382 [(0, .ref x0)] [.int v72.1] v72.2 0 0
    refine pm_pop C dX9_instruction_382 rfl ?_
    refine pm_goto (tgt := 470) C dX9_instruction_383 (by decide) ?_
    cases hf
    exact pm_vret C X dX9_instruction_470 rfl (Nat.le_refl _) (Nat.le_refl _) q
  have hf := pm_ie hf c71
  by_cases c74 : y32 = 64
  · have hf := pm_it hf c74
    refine pm_lookup (off := 250) (tgt := 377) C dX9_instruction_127 (by decide) (by rw [c74]; first | done | decide | rfl) (by decide) ?_
    refine pm_aload_n C dX9_instruction_377 rfl rfl ?_
    refine pm_iconst (v := 0) C dX9_instruction_378 (by decide) ?_
    obtain ⟨v75, e76, hf⟩ := pm_bd hf
    refine pm_callV (as := [.int 0]) (st := []) C X dX9_instruction_379 lnX9_228 myX9_nextUpTo viX9_nextUpTo ⟨by decide, by decide⟩ rfl rfl k31 (Nat.le_of_ble_eq_true rfl) (Nat.le_refl _) (Nat.le_refl _) (ctX9_nextUpTo e76 ?_)
    show pm_G g 382 [(0, .ref x0)] [.int v75.1] v75.2 0 0
    refine pm_pop C dX9_instruction_382 rfl ?_
    refine pm_goto (tgt := 470) C dX9_instruction_383 (by decide) ?_
    cases hf
    exact pm_vret C X dX9_instruction_470 rfl (Nat.le_refl _) (Nat.le_refl _) q
  have hf := pm_ie hf c74
  by_cases c77 : y32 = 65
  · have hf := pm_it hf c77
    refine pm_lookup (off := 259) (tgt := 386) C dX9_instruction_127 (by decide) (by rw [c77]; first | done | decide | rfl) (by decide) ?_
    refine pm_aload_n C dX9_instruction_386 rfl rfl ?_
    refine pm_aload_n C dX9_instruction_387 rfl rfl ?_
    refine pm_bipush (v := (-32)) C dX9_instruction_388 (by decide) ?_
    obtain ⟨v78, e79, hf⟩ := pm_bd hf
    refine pm_callV (as := [.int (-32)]) (st := [.ref x0]) C X dX9_instruction_390 lnX9_145 myX9_number viX9_number ⟨by decide, by decide⟩ rfl rfl k31 (Nat.le_of_ble_eq_true rfl) (Nat.le_refl _) (Nat.le_refl _) (ctX9_number e79 ?_)
    show pm_G g 393 [(0, .ref x0)] [.long v78.1, .ref x0] v78.2 0 0
    refine pm_ldc2 C dX9_instruction_393 cnX9_257 ?_
    refine pm_land C dX9_instruction_396 ?_
    obtain ⟨y80, e81, hf⟩ := pm_lt hf
    refine pm_topL e81 ?_
    obtain ⟨k82, hf⟩ := pm_if hf
    refine pm_putL C dX9_instruction_397 flX9_279 rfl rfl k82 ?_
    refine pm_goto (tgt := 470) C dX9_instruction_400 (by decide) ?_
    cases hf
    exact pm_vret C X dX9_instruction_470 rfl (Nat.le_refl _) (Nat.le_refl _) q
  have hf := pm_ie hf c77
  by_cases c83 : y32 = 66
  · have hf := pm_it hf c83
    refine pm_lookup (off := 276) (tgt := 403) C dX9_instruction_127 (by decide) (by rw [c83]; first | done | decide | rfl) (by decide) ?_
    refine pm_aload_n C dX9_instruction_403 rfl rfl ?_
    refine pm_aload_n C dX9_instruction_404 rfl rfl ?_
    refine pm_bipush (v := (-64)) C dX9_instruction_405 (by decide) ?_
    obtain ⟨v84, e85, hf⟩ := pm_bd hf
    refine pm_callV (as := [.int (-64)]) (st := [.ref x0]) C X dX9_instruction_407 lnX9_145 myX9_number viX9_number ⟨by decide, by decide⟩ rfl rfl k31 (Nat.le_of_ble_eq_true rfl) (Nat.le_refl _) (Nat.le_refl _) (ctX9_number e85 ?_)
    show pm_G g 410 [(0, .ref x0)] [.long v84.1, .ref x0] v84.2 0 0
    obtain ⟨k86, hf⟩ := pm_if hf
    refine pm_putL C dX9_instruction_410 flX9_279 rfl rfl k86 ?_
    refine pm_goto (tgt := 470) C dX9_instruction_413 (by decide) ?_
    cases hf
    exact pm_vret C X dX9_instruction_470 rfl (Nat.le_refl _) (Nat.le_refl _) q
  have hf := pm_ie hf c83
  by_cases c87 : y32 = 67
  · have hf := pm_it hf c87
    refine pm_lookup (off := 289) (tgt := 416) C dX9_instruction_127 (by decide) (by rw [c87]; first | done | decide | rfl) (by decide) ?_
    refine pm_aload_n C dX9_instruction_416 rfl rfl ?_
    refine pm_aload_n C dX9_instruction_417 rfl rfl ?_
    refine pm_iconst (v := 4) C dX9_instruction_418 (by decide) ?_
    obtain ⟨v88, e89, hf⟩ := pm_bd hf
    refine pm_callV (as := [.int 4]) (st := [.ref x0]) C X dX9_instruction_419 lnX9_295 myX9_lowestFirst viX9_lowestFirst ⟨by decide, by decide⟩ rfl rfl k31 (Nat.le_of_ble_eq_true rfl) (Nat.le_refl _) (Nat.le_refl _) (ctX9_lowestFirst e89 ?_)
    show pm_G g 422 [(0, .ref x0)] [.long v88.1, .ref x0] v88.2 0 0
    obtain ⟨k90, hf⟩ := pm_if hf
    refine pm_putL C dX9_instruction_422 flX9_279 rfl rfl k90 ?_
    refine pm_goto (tgt := 470) C dX9_instruction_425 (by decide) ?_
    cases hf
    exact pm_vret C X dX9_instruction_470 rfl (Nat.le_refl _) (Nat.le_refl _) q
  have hf := pm_ie hf c87
  by_cases c91 : y32 = 68
  · have hf := pm_it hf c91
    refine pm_lookup (off := 301) (tgt := 428) C dX9_instruction_127 (by decide) (by rw [c91]; first | done | decide | rfl) (by decide) ?_
    refine pm_aload_n C dX9_instruction_428 rfl rfl ?_
    refine pm_aload_n C dX9_instruction_429 rfl rfl ?_
    refine pm_bipush (v := 8) C dX9_instruction_430 (by decide) ?_
    obtain ⟨v92, e93, hf⟩ := pm_bd hf
    refine pm_callV (as := [.int 8]) (st := [.ref x0]) C X dX9_instruction_432 lnX9_295 myX9_lowestFirst viX9_lowestFirst ⟨by decide, by decide⟩ rfl rfl k31 (Nat.le_of_ble_eq_true rfl) (Nat.le_refl _) (Nat.le_refl _) (ctX9_lowestFirst e93 ?_)
    show pm_G g 435 [(0, .ref x0)] [.long v92.1, .ref x0] v92.2 0 0
    obtain ⟨k94, hf⟩ := pm_if hf
    refine pm_putL C dX9_instruction_435 flX9_279 rfl rfl k94 ?_
    refine pm_goto (tgt := 470) C dX9_instruction_438 (by decide) ?_
    cases hf
    exact pm_vret C X dX9_instruction_470 rfl (Nat.le_refl _) (Nat.le_refl _) q
  have hf := pm_ie hf c91
  by_cases c95 : y32 = 208
  · have hf := pm_it hf c95
    refine pm_lookup (off := 314) (tgt := 441) C dX9_instruction_127 (by decide) (by rw [c95]; first | done | decide | rfl) (by decide) ?_
    refine pm_aload_n C dX9_instruction_441 rfl rfl ?_
    refine pm_aload_n C dX9_instruction_442 rfl rfl ?_
    obtain ⟨v96, e97, hf⟩ := pm_bd hf
    refine pm_callV (as := []) (st := [.ref x0]) C X dX9_instruction_443 lnX9_244 myX9_referenceType viX9_referenceType ⟨by decide, by decide⟩ rfl rfl k31 (Nat.le_of_ble_eq_true rfl) (Nat.le_refl _) (Nat.le_refl _) (ctX9_referenceType e97 ?_)
    show pm_G g 446 [(0, .ref x0)] [.int v96.1, .ref x0] v96.2 0 0
    refine pm_i2l C dX9_instruction_446 ?_
    obtain ⟨k98, hf⟩ := pm_if hf
    refine pm_putL C dX9_instruction_447 flX9_279 rfl rfl k98 ?_
    refine pm_goto (tgt := 470) C dX9_instruction_450 (by decide) ?_
    cases hf
    exact pm_vret C X dX9_instruction_470 rfl (Nat.le_refl _) (Nat.le_refl _) q
  have hf := pm_ie hf c95
  by_cases c99 : y32 = 209
  · have hf := pm_it hf c99
    refine pm_lookup (off := 209) (tgt := 336) C dX9_instruction_127 (by decide) (by rw [c99]; first | done | decide | rfl) (by decide) ?_
    refine pm_goto (tgt := 470) C dX9_instruction_336 (by decide) ?_
    cases hf
    exact pm_vret C X dX9_instruction_470 rfl (Nat.le_refl _) (Nat.le_refl _) q
  have hf := pm_ie hf c99
  by_cases c100 : y32 = 210
  · have hf := pm_it hf c100
    refine pm_lookup (off := 223) (tgt := 350) C dX9_instruction_127 (by decide) (by rw [c100]; first | done | decide | rfl) (by decide) ?_
    refine pm_aload_n C dX9_instruction_350 rfl rfl ?_
    refine pm_aload_n C dX9_instruction_351 rfl rfl ?_
    refine pm_bipush (v := 32) C dX9_instruction_352 (by decide) ?_
    obtain ⟨v101, e102, hf⟩ := pm_bd hf
    refine pm_callV (as := [.int 32]) (st := [.ref x0]) C X dX9_instruction_354 lnX9_145 myX9_number viX9_number ⟨by decide, by decide⟩ rfl rfl k31 (Nat.le_of_ble_eq_true rfl) (Nat.le_refl _) (Nat.le_refl _) (ctX9_number e102 ?_)
    show pm_G g 357 [(0, .ref x0)] [.long v101.1, .ref x0] v101.2 0 0
    obtain ⟨k103, hf⟩ := pm_if hf
    refine pm_putL C dX9_instruction_357 flX9_279 rfl rfl k103 ?_
    refine pm_goto (tgt := 470) C dX9_instruction_360 (by decide) ?_
    cases hf
    exact pm_vret C X dX9_instruction_470 rfl (Nat.le_refl _) (Nat.le_refl _) q
  have hf := pm_ie hf c100
  by_cases c104 : y32 = 252
  · have hf := pm_it hf c104
    refine pm_lookup (off := 326) (tgt := 453) C dX9_instruction_127 (by decide) (by rw [c104]; first | done | decide | rfl) (by decide) ?_
    refine pm_aload_n C dX9_instruction_453 rfl rfl ?_
    obtain ⟨v105, e106, hf⟩ := pm_bd hf
    refine pm_callV (as := []) (st := []) C X dX9_instruction_454 lnX9_298 myX9_longInstruction viX9_longInstruction ⟨by decide, by decide⟩ rfl rfl k31 (Nat.le_of_ble_eq_true rfl) (Nat.le_refl _) (Nat.le_refl _) (ctX9_longInstruction e106 ?_)
    show pm_G g 457 [(0, .ref x0)] [] v105 0 0
    refine pm_goto (tgt := 470) C dX9_instruction_457 (by decide) ?_
    cases hf
    exact pm_vret C X dX9_instruction_470 rfl (Nat.le_refl _) (Nat.le_refl _) q
  have hf := pm_ie hf c104
  refine pm_lookup (off := 333) (tgt := 460) C dX9_instruction_127 (by decide) ((lv_osw c34 (by decide)).trans ((lv_osw c35 (by decide)).trans ((lv_osw c36 (by decide)).trans ((lv_osw c40 (by decide)).trans ((lv_osw c44 (by decide)).trans ((lv_osw c48 (by decide)).trans ((lv_osw c49 (by decide)).trans ((lv_osw c50 (by decide)).trans ((lv_osw c54 (by decide)).trans ((lv_osw c58 (by decide)).trans ((lv_osw c61 (by decide)).trans ((lv_osw c62 (by decide)).trans ((lv_osw c66 (by decide)).trans ((lv_osw c67 (by decide)).trans ((lv_osw c68 (by decide)).trans ((lv_osw c71 (by decide)).trans ((lv_osw c74 (by decide)).trans ((lv_osw c77 (by decide)).trans ((lv_osw c83 (by decide)).trans ((lv_osw c87 (by decide)).trans ((lv_osw c91 (by decide)).trans ((lv_osw c95 (by decide)).trans ((lv_osw c99 (by decide)).trans ((lv_osw c100 (by decide)).trans ((lv_osw c104 (by decide)).trans (rfl)))))))))))))))))))))))))) (by decide) ?_
  refine pm_aload_n C dX9_instruction_460 rfl rfl ?_
  refine pm_bipush (v := 10) C dX9_instruction_461 (by decide) ?_
  refine pm_aload_n C dX9_instruction_463 rfl rfl ?_
  refine pm_getI C dX9_instruction_464 flX9_276 rfl k31 rfl ?_
  obtain ⟨v107, e108, hf⟩ := pm_bd hf
  refine pm_callV (as := [.int 10, .int (pm_I h x0 7)]) (st := []) C X dX9_instruction_467 lnX9_47 myX9_fail viX9_fail ⟨by decide, by decide⟩ rfl rfl k31 (Nat.le_of_ble_eq_true rfl) (Nat.le_refl _) (Nat.le_refl _) (ctX9_fail e108 ?_)
  show pm_G g 470 [(0, .ref x0)] [] v107 0 0
  cases hf
  exact pm_vret C X dX9_instruction_470 rfl (Nat.le_refl _) (Nat.le_refl _) q
set_option maxHeartbeats 4000000 in
set_option maxRecDepth 100000 in
theorem bX9_instruction_64 {g : pm_Gm} {l : Launch} {G : pm_Gl} {Qr : Option Value → pm_H → Prop} (C : pm_C g cX9_instruction RX9) (X : pm_X g l G mX9_instruction 0 0 Qr) {h : pm_H} {x0 : Nat} {r : pm_H} (hf : fX9_instruction_b64 h x0 = some r) (q : Qr none r) : pm_G g 64 [(0, .ref x0)] [] h 0 0 := by
  unfold fX9_instruction_b64 at hf
  refine pm_aload_n C dX9_instruction_64 rfl rfl ?_
  obtain ⟨k18, hf⟩ := pm_if hf
  refine pm_getI C dX9_instruction_65 flX9_273 rfl k18 rfl ?_
  refine pm_bipush (v := 17) C dX9_instruction_68 (by decide) ?_
  refine pm_icmp_ne (tgt := 94) C dX9_instruction_70 (by decide) (fun c19 => ?_) (fun c19 => ?_)
  · have hf := pm_ie hf c19
    refine pm_aload_n C dX9_instruction_94 rfl rfl ?_
    refine pm_getI C dX9_instruction_95 flX9_273 rfl k18 rfl ?_
    refine pm_bipush (v := 32) C dX9_instruction_98 (by decide) ?_
    refine pm_icmp_lt (tgt := 123) C dX9_instruction_100 (by decide) (fun c20 => ?_) (fun c20 => ?_)
    · have hf := pm_it hf c20
      exact pm_sub [0] rfl (bX9_instruction_123 C X hf q)
    · have hf := pm_ie hf c20
      refine pm_aload_n C dX9_instruction_103 rfl rfl ?_
      refine pm_getI C dX9_instruction_104 flX9_273 rfl k18 rfl ?_
      refine pm_bipush (v := 38) C dX9_instruction_107 (by decide) ?_
      refine pm_icmp_gt (tgt := 123) C dX9_instruction_109 (by decide) (fun c21 => ?_) (fun c21 => ?_)
      · have hf := pm_it hf c21
        exact pm_sub [0] rfl (bX9_instruction_123 C X hf q)
      · have hf := pm_ie hf c21
        refine pm_aload_n C dX9_instruction_112 rfl rfl ?_
        refine pm_aload_n C dX9_instruction_113 rfl rfl ?_
        refine pm_bipush (v := 32) C dX9_instruction_114 (by decide) ?_
        obtain ⟨v22, e23, hf⟩ := pm_bd hf
        refine pm_callV (as := [.int 32]) (st := [.ref x0]) C X dX9_instruction_116 lnX9_145 myX9_number viX9_number ⟨by decide, by decide⟩ rfl rfl k18 (Nat.le_of_ble_eq_true rfl) (Nat.le_refl _) (Nat.le_refl _) (ctX9_number e23 ?_)
        show pm_G g 119 [(0, .ref x0)] [.long v22.1, .ref x0] v22.2 0 0
        obtain ⟨k24, hf⟩ := pm_if hf
        refine pm_putL C dX9_instruction_119 flX9_279 rfl rfl k24 ?_
        cases hf
        exact pm_vret C X dX9_instruction_122 rfl (Nat.le_refl _) (Nat.le_refl _) q
  · have hf := pm_it hf c19
    refine pm_aload_n C dX9_instruction_73 rfl rfl ?_
    refine pm_aload_n C dX9_instruction_74 rfl rfl ?_
    refine pm_bipush (v := 32) C dX9_instruction_75 (by decide) ?_
    obtain ⟨v25, e26, hf⟩ := pm_bd hf
    refine pm_callV (as := [.int 32]) (st := [.ref x0]) C X dX9_instruction_77 lnX9_145 myX9_number viX9_number ⟨by decide, by decide⟩ rfl rfl k18 (Nat.le_of_ble_eq_true rfl) (Nat.le_refl _) (Nat.le_refl _) (ctX9_number e26 ?_)
    show pm_G g 80 [(0, .ref x0)] [.long v25.1, .ref x0] v25.2 0 0
    obtain ⟨k27, hf⟩ := pm_if hf
    refine pm_putL C dX9_instruction_80 flX9_279 rfl rfl k27 ?_
    refine pm_aload_n C dX9_instruction_83 rfl rfl ?_
    refine pm_aload_n C dX9_instruction_84 rfl rfl ?_
    refine pm_bipush (v := 32) C dX9_instruction_85 (by decide) ?_
    obtain ⟨v28, e29, hf⟩ := pm_bd hf
    refine pm_callV (as := [.int 32]) (st := [.ref x0]) C X dX9_instruction_87 lnX9_145 myX9_number viX9_number ⟨by decide, by decide⟩ rfl rfl k27 (Nat.le_of_ble_eq_true rfl) (Nat.le_refl _) (Nat.le_refl _) (ctX9_number e29 ?_)
    show pm_G g 90 [(0, .ref x0)] [.long v28.1, .ref x0] v28.2 0 0
    obtain ⟨k30, hf⟩ := pm_if hf
    refine pm_putL C dX9_instruction_90 flX9_282 rfl rfl k30 ?_
    cases hf
    exact pm_vret C X dX9_instruction_93 rfl (Nat.le_refl _) (Nat.le_refl _) q
set_option maxHeartbeats 4000000 in
set_option maxRecDepth 100000 in
theorem bX9_instruction_46 {g : pm_Gm} {l : Launch} {G : pm_Gl} {Qr : Option Value → pm_H → Prop} (C : pm_C g cX9_instruction RX9) (X : pm_X g l G mX9_instruction 0 0 Qr) {h : pm_H} {x0 : Nat} {r : pm_H} (hf : fX9_instruction_b46 h x0 = some r) (q : Qr none r) : pm_G g 46 [(0, .ref x0)] [] h 0 0 := by
  unfold fX9_instruction_b46 at hf
  refine pm_aload_n C dX9_instruction_46 rfl rfl ?_
  obtain ⟨k9, hf⟩ := pm_if hf
  refine pm_getI C dX9_instruction_47 flX9_273 rfl k9 rfl ?_
  refine pm_bipush (v := 40) C dX9_instruction_50 (by decide) ?_
  refine pm_icmp_lt (tgt := 64) C dX9_instruction_52 (by decide) (fun c10 => ?_) (fun c10 => ?_)
  · have hf := pm_it hf c10
    exact pm_sub [0] rfl (bX9_instruction_64 C X hf q)
  · have hf := pm_ie hf c10
    refine pm_aload_n C dX9_instruction_55 rfl rfl ?_
    refine pm_getI C dX9_instruction_56 flX9_273 rfl k9 rfl ?_
    refine pm_bipush (v := 62) C dX9_instruction_59 (by decide) ?_
    refine pm_icmp_le (tgt := 73) C dX9_instruction_61 (by decide) (fun c11 => ?_) (fun c11 => ?_)
    · have hf := pm_it hf c11
      refine pm_aload_n C dX9_instruction_73 rfl rfl ?_
      refine pm_aload_n C dX9_instruction_74 rfl rfl ?_
      refine pm_bipush (v := 32) C dX9_instruction_75 (by decide) ?_
      obtain ⟨v12, e13, hf⟩ := pm_bd hf
      refine pm_callV (as := [.int 32]) (st := [.ref x0]) C X dX9_instruction_77 lnX9_145 myX9_number viX9_number ⟨by decide, by decide⟩ rfl rfl k9 (Nat.le_of_ble_eq_true rfl) (Nat.le_refl _) (Nat.le_refl _) (ctX9_number e13 ?_)
      show pm_G g 80 [(0, .ref x0)] [.long v12.1, .ref x0] v12.2 0 0
      obtain ⟨k14, hf⟩ := pm_if hf
      refine pm_putL C dX9_instruction_80 flX9_279 rfl rfl k14 ?_
      refine pm_aload_n C dX9_instruction_83 rfl rfl ?_
      refine pm_aload_n C dX9_instruction_84 rfl rfl ?_
      refine pm_bipush (v := 32) C dX9_instruction_85 (by decide) ?_
      obtain ⟨v15, e16, hf⟩ := pm_bd hf
      refine pm_callV (as := [.int 32]) (st := [.ref x0]) C X dX9_instruction_87 lnX9_145 myX9_number viX9_number ⟨by decide, by decide⟩ rfl rfl k14 (Nat.le_of_ble_eq_true rfl) (Nat.le_refl _) (Nat.le_refl _) (ctX9_number e16 ?_)
      show pm_G g 90 [(0, .ref x0)] [.long v15.1, .ref x0] v15.2 0 0
      obtain ⟨k17, hf⟩ := pm_if hf
      refine pm_putL C dX9_instruction_90 flX9_282 rfl rfl k17 ?_
      cases hf
      exact pm_vret C X dX9_instruction_93 rfl (Nat.le_refl _) (Nat.le_refl _) q
    · have hf := pm_ie hf c11
      exact pm_sub [0] rfl (bX9_instruction_64 C X hf q)
set_option maxHeartbeats 4000000 in
set_option maxRecDepth 100000 in
theorem ctX9_instruction {l : Launch} {G : pm_Gl} {h : pm_H} {a0 : Nat} {r : pm_H} {Qr : Option Value → pm_H → Prop} (hf : fX9_instruction h a0 = some r) (q : Qr none r) : pm_Ct l G mX9_instruction [.ref a0] h 0 0 Qr := by
  refine pm_body pnX9 (Nat.le_of_ble_eq_true rfl) (fun g C X => ?_)
  have C : pm_C g cX9_instruction RX9 := C
  show pm_G g 0 [(0, .ref a0)] [] h 0 0
  unfold fX9_instruction at hf
  refine pm_aload_n C dX9_instruction_0 rfl rfl ?_
  refine pm_aload_n C dX9_instruction_1 rfl rfl ?_
  obtain ⟨k1, hf⟩ := pm_if hf
  refine pm_getI C dX9_instruction_2 flX9_51 rfl k1 rfl ?_
  obtain ⟨y2, e3, hf⟩ := pm_lt hf
  refine pm_topI e3 ?_
  refine pm_putI C dX9_instruction_5 flX9_276 rfl rfl k1 rfl rfl ?_
  refine pm_aload_n C dX9_instruction_8 rfl rfl ?_
  refine pm_aload_n C dX9_instruction_9 rfl rfl ?_
  obtain ⟨v4, e5, hf⟩ := pm_bd hf
  refine pm_callV (as := []) (st := [.ref a0]) C X dX9_instruction_10 lnX9_43 myX9_next viX9_next ⟨by decide, by decide⟩ rfl rfl k1 (Nat.le_of_ble_eq_true rfl) (Nat.le_refl _) (Nat.le_refl _) (ctX9_next e5 ?_)
  show pm_G g 13 [(0, .ref a0)] [.int v4.1, .ref a0] v4.2 0 0
  obtain ⟨k6, hf⟩ := pm_if hf
  refine pm_putI C dX9_instruction_13 flX9_273 rfl rfl k6 rfl rfl ?_
  refine pm_aload_n C dX9_instruction_16 rfl rfl ?_
  refine pm_lconst (v := 0) C dX9_instruction_17 (by decide) ?_
  refine pm_putL C dX9_instruction_18 flX9_279 rfl rfl k6 ?_
  refine pm_aload_n C dX9_instruction_21 rfl rfl ?_
  refine pm_lconst (v := 0) C dX9_instruction_22 (by decide) ?_
  refine pm_putL C dX9_instruction_23 flX9_282 rfl rfl k6 ?_
  refine pm_aload_n C dX9_instruction_26 rfl rfl ?_
  refine pm_getI C dX9_instruction_27 flX9_273 rfl k6 rfl ?_
  refine pm_bipush (v := 69) C dX9_instruction_30 (by decide) ?_
  refine pm_icmp_lt (tgt := 46) C dX9_instruction_32 (by decide) (fun c7 => ?_) (fun c7 => ?_)
  · have hf := pm_it hf c7
    exact pm_sub [0] rfl (bX9_instruction_46 C X hf q)
  · have hf := pm_ie hf c7
    refine pm_aload_n C dX9_instruction_35 rfl rfl ?_
    refine pm_getI C dX9_instruction_36 flX9_273 rfl k6 rfl ?_
    refine pm_sipush (v := 196) C dX9_instruction_39 (by decide) ?_
    refine pm_icmp_gt (tgt := 46) C dX9_instruction_42 (by decide) (fun c8 => ?_) (fun c8 => ?_)
    · have hf := pm_it hf c8
      exact pm_sub [0] rfl (bX9_instruction_46 C X hf q)
    · have hf := pm_ie hf c8
      cases hf
      exact pm_vret C X dX9_instruction_45 rfl (Nat.le_refl _) (Nat.le_refl _) q
theorem dX10_constant_0 : decode cX10_constant 0 = .ok (.aload_n 0, 1) := by decide +kernel
theorem dX10_constant_1 : decode cX10_constant 1 = .ok (.getfield 72, 3) := by decide +kernel
theorem dX10_constant_4 : decode cX10_constant 4 = .ok (.invokevirtual 247, 3) := by decide +kernel
theorem dX10_constant_7 : decode cX10_constant 7 = .ok (.aload_n 0, 1) := by decide +kernel
theorem dX10_constant_8 : decode cX10_constant 8 = .ok (.getfield 72, 3) := by decide +kernel
theorem dX10_constant_11 : decode cX10_constant 11 = .ok (.getfield 250, 3) := by decide +kernel
theorem dX10_constant_14 : decode cX10_constant 14 = .ok (.istore_n 2, 1) := by decide +kernel
theorem dX10_constant_15 : decode cX10_constant 15 = .ok (.aload_n 0, 1) := by decide +kernel
theorem dX10_constant_16 : decode cX10_constant 16 = .ok (.getfield 72, 3) := by decide +kernel
theorem dX10_constant_19 : decode cX10_constant 19 = .ok (.getfield 253, 3) := by decide +kernel
theorem dX10_constant_22 : decode cX10_constant 22 = .ok (.invokestatic 240, 3) := by decide +kernel
theorem dX10_constant_25 : decode cX10_constant 25 = .ok (.istore_n 3, 1) := by decide +kernel
theorem dX10_constant_26 : decode cX10_constant 26 = .ok (.aload_n 0, 1) := by decide +kernel
theorem dX10_constant_27 : decode cX10_constant 27 = .ok (.getfield 72, 3) := by decide +kernel
theorem dX10_constant_30 : decode cX10_constant 30 = .ok (.getfield 253, 3) := by decide +kernel
theorem dX10_constant_33 : decode cX10_constant 33 = .ok (.lstore 4, 2) := by decide +kernel
theorem dX10_constant_35 : decode cX10_constant 35 = .ok (.aload_n 0, 1) := by decide +kernel
theorem dX10_constant_36 : decode cX10_constant 36 = .ok (.getfield 72, 3) := by decide +kernel
theorem dX10_constant_39 : decode cX10_constant 39 = .ok (.invokevirtual 247, 3) := by decide +kernel
theorem dX10_constant_42 : decode cX10_constant 42 = .ok (.iload_n 2, 1) := by decide +kernel
theorem dX10_constant_43 : decode cX10_constant 43 = .ok (.sipush 208, 3) := by decide +kernel
theorem dX10_constant_46 : decode cX10_constant 46 = .ok (.if_icmp .ne 7, 3) := by decide +kernel
theorem dX10_constant_49 : decode cX10_constant 49 = .ok (.ldc2_w 257, 3) := by decide +kernel
theorem dX10_constant_52 : decode cX10_constant 52 = .ok (.lreturn, 1) := by decide +kernel
theorem dX10_constant_53 : decode cX10_constant 53 = .ok (.iload_n 2, 1) := by decide +kernel
theorem dX10_constant_54 : decode cX10_constant 54 = .ok (.sipush 210, 3) := by decide +kernel
theorem dX10_constant_57 : decode cX10_constant 57 = .ok (.if_icmp .ne 13, 3) := by decide +kernel
theorem dX10_constant_60 : decode cX10_constant 60 = .ok (.aload_n 1, 1) := by decide +kernel
theorem dX10_constant_61 : decode cX10_constant 61 = .ok (.getfield 188, 3) := by decide +kernel
theorem dX10_constant_64 : decode cX10_constant 64 = .ok (.iload_n 3, 1) := by decide +kernel
theorem dX10_constant_65 : decode cX10_constant 65 = .ok (.invokestatic 104, 3) := by decide +kernel
theorem dX10_constant_68 : decode cX10_constant 68 = .ok (.i2l, 1) := by decide +kernel
theorem dX10_constant_69 : decode cX10_constant 69 = .ok (.lreturn, 1) := by decide +kernel
theorem dX10_constant_70 : decode cX10_constant 70 = .ok (.iload_n 2, 1) := by decide +kernel
theorem dX10_constant_71 : decode cX10_constant 71 = .ok (.bipush 35, 2) := by decide +kernel
theorem dX10_constant_73 : decode cX10_constant 73 = .ok (.if_icmp .ne 21, 3) := by decide +kernel
theorem dX10_constant_76 : decode cX10_constant 76 = .ok (.aload_n 0, 1) := by decide +kernel
theorem dX10_constant_77 : decode cX10_constant 77 = .ok (.getfield 29, 3) := by decide +kernel
theorem dX10_constant_80 : decode cX10_constant 80 = .ok (.aload_n 1, 1) := by decide +kernel
theorem dX10_constant_81 : decode cX10_constant 81 = .ok (.getfield 202, 3) := by decide +kernel
theorem dX10_constant_84 : decode cX10_constant 84 = .ok (.iload_n 3, 1) := by decide +kernel
theorem dX10_constant_85 : decode cX10_constant 85 = .ok (.invokestatic 104, 3) := by decide +kernel
theorem dX10_constant_88 : decode cX10_constant 88 = .ok (.invokestatic 112, 3) := by decide +kernel
theorem dX10_constant_91 : decode cX10_constant 91 = .ok (.goto 5, 3) := by decide +kernel
theorem dX10_constant_94 : decode cX10_constant 94 = .ok (.lload 4, 2) := by decide +kernel
theorem dX10_constant_96 : decode cX10_constant 96 = .ok (.lreturn, 1) := by decide +kernel
noncomputable def fX10_constant (h : pm_H) (a0 : Nat) (p1 : Nat) : Option (Int64 × pm_H) := if pm_kd h a0 = 10 then (pm_R h a0 18).bind fun v2 => if pm_kd h v2 = 9 then (fX9_instruction h v2).bind fun v5 => if pm_kd v5 a0 = 10 then (pm_R v5 a0 18).bind fun v8 => if pm_kd v5 v8 = 9 then pm_let (pm_I v5 v8 6) fun y11 => pm_let (fX12_index (pm_L v5 v8 8)) fun v13 => pm_let (pm_L v5 v8 8) fun y15 => (fX9_instruction v5 v8).bind fun v17 => if y11 = 208 then (some (((-1), v17))) else (if y11 = 210 then (if pm_kd v17 p1 = 4 then (pm_R v17 p1 1).bind fun v33 => (fX12_item v17 v33 v13).bind fun v35 => some ((v35.toInt64, v17)) else none) else (if y11 = 35 then (if pm_kd v17 a0 = 10 then (pm_R v17 a0 7).bind fun v23 => if pm_kd v17 p1 = 4 then (pm_R v17 p1 4).bind fun v26 => (fX12_item v17 v26 v13).bind fun v28 => (fX12_item_ v17 v23 v28).bind fun v30 => some ((v30, v17)) else none else none) else (some ((y15, v17))))) else none else none else none else none
set_option maxHeartbeats 4000000 in
set_option maxRecDepth 100000 in
theorem ctX10_constant {l : Launch} {G : pm_Gl} {h : pm_H} {a0 : Nat} {p1 : Nat} {r : (Int64 × pm_H)} {Qr : Option Value → pm_H → Prop} (hf : fX10_constant h a0 p1 = some r) (q : Qr (some (.long r.1)) r.2) : pm_Ct l G mX10_constant [.ref a0, .ref p1] h 0 0 Qr := by
  refine pm_body pnX10 (Nat.le_of_ble_eq_true rfl) (fun g C X => ?_)
  have C : pm_C g cX10_constant RX10 := C
  show pm_G g 0 [(0, .ref a0), (1, .ref p1)] [] h 0 0
  unfold fX10_constant at hf
  refine pm_aload_n C dX10_constant_0 rfl rfl ?_
  obtain ⟨k1, hf⟩ := pm_if hf
  obtain ⟨v2, e3, hf⟩ := pm_bd hf
  refine pm_getR C dX10_constant_1 flX10_72 rfl k1 e3 ?_
  obtain ⟨k4, hf⟩ := pm_if hf
  obtain ⟨v5, e6, hf⟩ := pm_bd hf
  refine pm_callV (as := []) (st := []) C X dX10_constant_4 lnX10_247 myX9_instruction viX9_instruction ⟨by decide, by decide⟩ rfl rfl k4 (Nat.le_of_ble_eq_true rfl) (Nat.le_refl _) (Nat.le_refl _) (ctX9_instruction e6 ?_)
  show pm_G g 7 [(0, .ref a0), (1, .ref p1)] [] v5 0 0
  refine pm_aload_n C dX10_constant_7 rfl rfl ?_
  obtain ⟨k7, hf⟩ := pm_if hf
  obtain ⟨v8, e9, hf⟩ := pm_bd hf
  refine pm_getR C dX10_constant_8 flX10_72 rfl k7 e9 ?_
  obtain ⟨k10, hf⟩ := pm_if hf
  refine pm_getI C dX10_constant_11 flX10_250 rfl k10 rfl ?_
  obtain ⟨y11, e12, hf⟩ := pm_lt hf
  refine pm_topI e12 ?_
  refine pm_istore_n (lv' := [(2, .int y11), (0, .ref a0), (1, .ref p1)]) C dX10_constant_14 rfl (pm_nl X (by decide)) rfl ?_
  refine pm_aload_n C dX10_constant_15 rfl rfl ?_
  refine pm_getR C dX10_constant_16 flX10_72 rfl k7 e9 ?_
  refine pm_getL C dX10_constant_19 flX10_253 rfl k10 rfl ?_
  obtain ⟨v13, e14, hf⟩ := pm_lt hf
  refine pm_callS (as := [.long (pm_L v5 v8 8)]) (st := []) C X dX10_constant_22 lnX10_240 myX12_index stX12_index ⟨by decide, by decide⟩ rfl rfl (Nat.le_of_ble_eq_true rfl) (Nat.le_refl _) (Nat.le_refl _) (ctX12_index e14 ?_)
  show pm_G g 25 [(2, .int y11), (0, .ref a0), (1, .ref p1)] [.int v13] v5 0 0
  refine pm_istore_n (lv' := [(3, .int v13), (2, .int y11), (0, .ref a0), (1, .ref p1)]) C dX10_constant_25 rfl (pm_nl X (by decide)) rfl ?_
  refine pm_aload_n C dX10_constant_26 rfl rfl ?_
  refine pm_getR C dX10_constant_27 flX10_72 rfl k7 e9 ?_
  refine pm_getL C dX10_constant_30 flX10_253 rfl k10 rfl ?_
  obtain ⟨y15, e16, hf⟩ := pm_lt hf
  refine pm_topL e16 ?_
  refine pm_lstore (lv' := [(4, .long y15), (3, .int v13), (2, .int y11), (0, .ref a0), (1, .ref p1)]) C dX10_constant_33 (pm_nl X (by decide)) rfl ?_
  refine pm_aload_n C dX10_constant_35 rfl rfl ?_
  refine pm_getR C dX10_constant_36 flX10_72 rfl k7 e9 ?_
  obtain ⟨v17, e18, hf⟩ := pm_bd hf
  refine pm_callV (as := []) (st := []) C X dX10_constant_39 lnX10_247 myX9_instruction viX9_instruction ⟨by decide, by decide⟩ rfl rfl k10 (Nat.le_of_ble_eq_true rfl) (Nat.le_refl _) (Nat.le_refl _) (ctX9_instruction e18 ?_)
  show pm_G g 42 [(4, .long y15), (3, .int v13), (2, .int y11), (0, .ref a0), (1, .ref p1)] [] v17 0 0
  refine pm_iload_n C dX10_constant_42 rfl rfl ?_
  refine pm_sipush (v := 208) C dX10_constant_43 (by decide) ?_
  refine pm_icmp_ne (tgt := 53) C dX10_constant_46 (by decide) (fun c19 => ?_) (fun c19 => ?_)
  · have hf := pm_ie hf c19
    refine pm_iload_n C dX10_constant_53 rfl rfl ?_
    refine pm_sipush (v := 210) C dX10_constant_54 (by decide) ?_
    refine pm_icmp_ne (tgt := 70) C dX10_constant_57 (by decide) (fun c20 => ?_) (fun c20 => ?_)
    · have hf := pm_ie hf c20
      refine pm_iload_n C dX10_constant_70 rfl rfl ?_
      refine pm_bipush (v := 35) C dX10_constant_71 (by decide) ?_
      refine pm_icmp_ne (tgt := 94) C dX10_constant_73 (by decide) (fun c21 => ?_) (fun c21 => ?_)
      · have hf := pm_ie hf c21
        refine pm_lload C dX10_constant_94 rfl ?_
        cases hf
        exact pm_lret C X dX10_constant_96 rfl (Nat.le_refl _) (Nat.le_refl _) q
      · have hf := pm_it hf c21
        refine pm_aload_n C dX10_constant_76 rfl rfl ?_
        obtain ⟨k22, hf⟩ := pm_if hf
        obtain ⟨v23, e24, hf⟩ := pm_bd hf
        refine pm_getR C dX10_constant_77 flX10_29 rfl k22 e24 ?_
        refine pm_aload_n C dX10_constant_80 rfl rfl ?_
        obtain ⟨k25, hf⟩ := pm_if hf
        obtain ⟨v26, e27, hf⟩ := pm_bd hf
        refine pm_getR C dX10_constant_81 flX10_202 rfl k25 e27 ?_
        refine pm_iload_n C dX10_constant_84 rfl rfl ?_
        obtain ⟨v28, e29, hf⟩ := pm_bd hf
        refine pm_callS (as := [.ref v26, .int v13]) (st := [.ref v23]) C X dX10_constant_85 lnX10_104 myX12_item stX12_item ⟨by decide, by decide⟩ rfl rfl (Nat.le_of_ble_eq_true rfl) (Nat.le_refl _) (Nat.le_refl _) (ctX12_item e29 ?_)
        show pm_G g 88 [(4, .long y15), (3, .int v13), (2, .int y11), (0, .ref a0), (1, .ref p1)] [.int v28, .ref v23] v17 0 0
        obtain ⟨v30, e31, hf⟩ := pm_bd hf
        refine pm_callS (as := [.ref v23, .int v28]) (st := []) C X dX10_constant_88 lnX10_112 myX12_item_ stX12_item_ ⟨by decide, by decide⟩ rfl rfl (Nat.le_of_ble_eq_true rfl) (Nat.le_refl _) (Nat.le_refl _) (ctX12_item_ e31 ?_)
        show pm_G g 91 [(4, .long y15), (3, .int v13), (2, .int y11), (0, .ref a0), (1, .ref p1)] [.long v30] v17 0 0
        refine pm_goto (tgt := 96) C dX10_constant_91 (by decide) ?_
        cases hf
        exact pm_lret C X dX10_constant_96 rfl (Nat.le_refl _) (Nat.le_refl _) q
    · have hf := pm_it hf c20
      refine pm_aload_n C dX10_constant_60 rfl rfl ?_
      obtain ⟨k32, hf⟩ := pm_if hf
      obtain ⟨v33, e34, hf⟩ := pm_bd hf
      refine pm_getR C dX10_constant_61 flX10_188 rfl k32 e34 ?_
      refine pm_iload_n C dX10_constant_64 rfl rfl ?_
      obtain ⟨v35, e36, hf⟩ := pm_bd hf
      refine pm_callS (as := [.ref v33, .int v13]) (st := []) C X dX10_constant_65 lnX10_104 myX12_item stX12_item ⟨by decide, by decide⟩ rfl rfl (Nat.le_of_ble_eq_true rfl) (Nat.le_refl _) (Nat.le_refl _) (ctX12_item e36 ?_)
      show pm_G g 68 [(4, .long y15), (3, .int v13), (2, .int y11), (0, .ref a0), (1, .ref p1)] [.int v35] v17 0 0
      refine pm_i2l C dX10_constant_68 ?_
      cases hf
      exact pm_lret C X dX10_constant_69 rfl (Nat.le_refl _) (Nat.le_refl _) q
  · have hf := pm_it hf c19
    refine pm_ldc2 C dX10_constant_49 cnX10_257 ?_
    cases hf
    exact pm_lret C X dX10_constant_52 rfl (Nat.le_refl _) (Nat.le_refl _) q
