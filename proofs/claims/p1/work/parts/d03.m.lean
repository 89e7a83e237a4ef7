theorem dX8_toWhole_0 : decode cX8_toWhole 0 = .ok (.iload_n 1, 1) := by decide +kernel
theorem dX8_toWhole_1 : decode cX8_toWhole 1 = .ok (.tableswitch 183 167 196 #[135, 183, 183, 183, 183, 141, 145, 183, 183, 183, 183, 183, 183, 183, 183, 183, 183, 183, 183, 183, 183, 183, 183, 183, 183, 151, 160, 169, 174, 179], 135) := by decide +kernel
theorem dX8_toWhole_136 : decode cX8_toWhole 136 = .ok (.lload_n 2, 1) := by decide +kernel
theorem dX8_toWhole_137 : decode cX8_toWhole 137 = .ok (.ldc2_w 56, 3) := by decide +kernel
theorem dX8_toWhole_140 : decode cX8_toWhole 140 = .ok (.land, 1) := by decide +kernel
theorem dX8_toWhole_141 : decode cX8_toWhole 141 = .ok (.lreturn, 1) := by decide +kernel
theorem dX8_toWhole_142 : decode cX8_toWhole 142 = .ok (.lload_n 2, 1) := by decide +kernel
theorem dX8_toWhole_143 : decode cX8_toWhole 143 = .ok (.l2i, 1) := by decide +kernel
theorem dX8_toWhole_144 : decode cX8_toWhole 144 = .ok (.i2l, 1) := by decide +kernel
theorem dX8_toWhole_145 : decode cX8_toWhole 145 = .ok (.lreturn, 1) := by decide +kernel
theorem dX8_toWhole_146 : decode cX8_toWhole 146 = .ok (.lload_n 2, 1) := by decide +kernel
theorem dX8_toWhole_147 : decode cX8_toWhole 147 = .ok (.ldc2_w 56, 3) := by decide +kernel
theorem dX8_toWhole_150 : decode cX8_toWhole 150 = .ok (.land, 1) := by decide +kernel
theorem dX8_toWhole_151 : decode cX8_toWhole 151 = .ok (.lreturn, 1) := by decide +kernel
theorem dX8_toWhole_152 : decode cX8_toWhole 152 = .ok (.lload_n 2, 1) := by decide +kernel
theorem dX8_toWhole_153 : decode cX8_toWhole 153 = .ok (.l2i, 1) := by decide +kernel
theorem dX8_toWhole_154 : decode cX8_toWhole 154 = .ok (.i2b, 1) := by decide +kernel
theorem dX8_toWhole_155 : decode cX8_toWhole 155 = .ok (.i2l, 1) := by decide +kernel
theorem dX8_toWhole_156 : decode cX8_toWhole 156 = .ok (.ldc2_w 56, 3) := by decide +kernel
theorem dX8_toWhole_159 : decode cX8_toWhole 159 = .ok (.land, 1) := by decide +kernel
theorem dX8_toWhole_160 : decode cX8_toWhole 160 = .ok (.lreturn, 1) := by decide +kernel
theorem dX8_toWhole_161 : decode cX8_toWhole 161 = .ok (.lload_n 2, 1) := by decide +kernel
theorem dX8_toWhole_162 : decode cX8_toWhole 162 = .ok (.l2i, 1) := by decide +kernel
theorem dX8_toWhole_163 : decode cX8_toWhole 163 = .ok (.i2s, 1) := by decide +kernel
theorem dX8_toWhole_164 : decode cX8_toWhole 164 = .ok (.i2l, 1) := by decide +kernel
theorem dX8_toWhole_165 : decode cX8_toWhole 165 = .ok (.ldc2_w 56, 3) := by decide +kernel
theorem dX8_toWhole_168 : decode cX8_toWhole 168 = .ok (.land, 1) := by decide +kernel
theorem dX8_toWhole_169 : decode cX8_toWhole 169 = .ok (.lreturn, 1) := by decide +kernel
theorem dX8_toWhole_170 : decode cX8_toWhole 170 = .ok (.lload_n 2, 1) := by decide +kernel
theorem dX8_toWhole_171 : decode cX8_toWhole 171 = .ok (.l2i, 1) := by decide +kernel
theorem dX8_toWhole_172 : decode cX8_toWhole 172 = .ok (.i2b, 1) := by decide +kernel
theorem dX8_toWhole_173 : decode cX8_toWhole 173 = .ok (.i2l, 1) := by decide +kernel
theorem dX8_toWhole_174 : decode cX8_toWhole 174 = .ok (.lreturn, 1) := by decide +kernel
theorem dX8_toWhole_175 : decode cX8_toWhole 175 = .ok (.lload_n 2, 1) := by decide +kernel
theorem dX8_toWhole_176 : decode cX8_toWhole 176 = .ok (.l2i, 1) := by decide +kernel
theorem dX8_toWhole_177 : decode cX8_toWhole 177 = .ok (.i2s, 1) := by decide +kernel
theorem dX8_toWhole_178 : decode cX8_toWhole 178 = .ok (.i2l, 1) := by decide +kernel
theorem dX8_toWhole_179 : decode cX8_toWhole 179 = .ok (.lreturn, 1) := by decide +kernel
theorem dX8_toWhole_180 : decode cX8_toWhole 180 = .ok (.lload_n 2, 1) := by decide +kernel
theorem dX8_toWhole_181 : decode cX8_toWhole 181 = .ok (.l2i, 1) := by decide +kernel
theorem dX8_toWhole_182 : decode cX8_toWhole 182 = .ok (.i2l, 1) := by decide +kernel
theorem dX8_toWhole_183 : decode cX8_toWhole 183 = .ok (.lreturn, 1) := by decide +kernel
theorem dX8_toWhole_184 : decode cX8_toWhole 184 = .ok (.aload_n 0, 1) := by decide +kernel
theorem dX8_toWhole_185 : decode cX8_toWhole 185 = .ok (.iload_n 1, 1) := by decide +kernel
theorem dX8_toWhole_186 : decode cX8_toWhole 186 = .ok (.invokestatic 27, 3) := by decide +kernel
theorem dX8_toWhole_189 : decode cX8_toWhole 189 = .ok (.iload_n 1, 1) := by decide +kernel
theorem dX8_toWhole_190 : decode cX8_toWhole 190 = .ok (.invokestatic 189, 3) := by decide +kernel
theorem dX8_toWhole_193 : decode cX8_toWhole 193 = .ok (.ifCond .ne 8, 3) := by decide +kernel
theorem dX8_toWhole_196 : decode cX8_toWhole 196 = .ok (.bipush 32, 2) := by decide +kernel
theorem dX8_toWhole_198 : decode cX8_toWhole 198 = .ok (.goto 5, 3) := by decide +kernel
theorem dX8_toWhole_201 : decode cX8_toWhole 201 = .ok (.bipush 64, 2) := by decide +kernel
theorem dX8_toWhole_203 : decode cX8_toWhole 203 = .ok (.iload_n 1, 1) := by decide +kernel
theorem dX8_toWhole_204 : decode cX8_toWhole 204 = .ok (.lload_n 2, 1) := by decide +kernel
theorem dX8_toWhole_205 : decode cX8_toWhole 205 = .ok (.invokevirtual 192, 3) := by decide +kernel
theorem dX8_toWhole_208 : decode cX8_toWhole 208 = .ok (.lreturn, 1) := by decide +kernel
def fX8_toWhole (h : pm_H) (a0 : Nat) (p1 : Int32) (p2 : Int64) : Option (Int64 × pm_H) := if p1 = 167 then (some ((p2 &&& 4294967295, h))) else (if p1 = 168 then ((fX8_operandType p1).bind fun v3 => (fX8_resultType p1).bind fun v5 => if v5 = 0 then (if pm_kd h a0 = 8 then (fX8_truncated h a0 v3 32 p1 p2).bind fun v12 => some ((v12.1, v12.2)) else none) else (if pm_kd h a0 = 8 then (fX8_truncated h a0 v3 64 p1 p2).bind fun v9 => some ((v9.1, v9.2)) else none)) else (if p1 = 169 then ((fX8_operandType p1).bind fun v15 => (fX8_resultType p1).bind fun v17 => if v17 = 0 then (if pm_kd h a0 = 8 then (fX8_truncated h a0 v15 32 p1 p2).bind fun v24 => some ((v24.1, v24.2)) else none) else (if pm_kd h a0 = 8 then (fX8_truncated h a0 v15 64 p1 p2).bind fun v21 => some ((v21.1, v21.2)) else none)) else (if p1 = 170 then ((fX8_operandType p1).bind fun v27 => (fX8_resultType p1).bind fun v29 => if v29 = 0 then (if pm_kd h a0 = 8 then (fX8_truncated h a0 v27 32 p1 p2).bind fun v36 => some ((v36.1, v36.2)) else none) else (if pm_kd h a0 = 8 then (fX8_truncated h a0 v27 64 p1 p2).bind fun v33 => some ((v33.1, v33.2)) else none)) else (if p1 = 171 then ((fX8_operandType p1).bind fun v39 => (fX8_resultType p1).bind fun v41 => if v41 = 0 then (if pm_kd h a0 = 8 then (fX8_truncated h a0 v39 32 p1 p2).bind fun v48 => some ((v48.1, v48.2)) else none) else (if pm_kd h a0 = 8 then (fX8_truncated h a0 v39 64 p1 p2).bind fun v45 => some ((v45.1, v45.2)) else none)) else (if p1 = 172 then (some ((p2.toInt32.toInt64, h))) else (if p1 = 173 then (some ((p2 &&& 4294967295, h))) else (if p1 = 174 then ((fX8_operandType p1).bind fun v53 => (fX8_resultType p1).bind fun v55 => if v55 = 0 then (if pm_kd h a0 = 8 then (fX8_truncated h a0 v53 32 p1 p2).bind fun v62 => some ((v62.1, v62.2)) else none) else (if pm_kd h a0 = 8 then (fX8_truncated h a0 v53 64 p1 p2).bind fun v59 => some ((v59.1, v59.2)) else none)) else (if p1 = 175 then ((fX8_operandType p1).bind fun v65 => (fX8_resultType p1).bind fun v67 => if v67 = 0 then (if pm_kd h a0 = 8 then (fX8_truncated h a0 v65 32 p1 p2).bind fun v74 => some ((v74.1, v74.2)) else none) else (if pm_kd h a0 = 8 then (fX8_truncated h a0 v65 64 p1 p2).bind fun v71 => some ((v71.1, v71.2)) else none)) else (if p1 = 176 then ((fX8_operandType p1).bind fun v77 => (fX8_resultType p1).bind fun v79 => if v79 = 0 then (if pm_kd h a0 = 8 then (fX8_truncated h a0 v77 32 p1 p2).bind fun v86 => some ((v86.1, v86.2)) else none) else (if pm_kd h a0 = 8 then (fX8_truncated h a0 v77 64 p1 p2).bind fun v83 => some ((v83.1, v83.2)) else none)) else (if p1 = 177 then ((fX8_operandType p1).bind fun v89 => (fX8_resultType p1).bind fun v91 => if v91 = 0 then (if pm_kd h a0 = 8 then (fX8_truncated h a0 v89 32 p1 p2).bind fun v98 => some ((v98.1, v98.2)) else none) else (if pm_kd h a0 = 8 then (fX8_truncated h a0 v89 64 p1 p2).bind fun v95 => some ((v95.1, v95.2)) else none)) else (if p1 = 178 then ((fX8_operandType p1).bind fun v101 => (fX8_resultType p1).bind fun v103 => if v103 = 0 then (if pm_kd h a0 = 8 then (fX8_truncated h a0 v101 32 p1 p2).bind fun v110 => some ((v110.1, v110.2)) else none) else (if pm_kd h a0 = 8 then (fX8_truncated h a0 v101 64 p1 p2).bind fun v107 => some ((v107.1, v107.2)) else none)) else (if p1 = 179 then ((fX8_operandType p1).bind fun v113 => (fX8_resultType p1).bind fun v115 => if v115 = 0 then (if pm_kd h a0 = 8 then (fX8_truncated h a0 v113 32 p1 p2).bind fun v122 => some ((v122.1, v122.2)) else none) else (if pm_kd h a0 = 8 then (fX8_truncated h a0 v113 64 p1 p2).bind fun v119 => some ((v119.1, v119.2)) else none)) else (if p1 = 180 then ((fX8_operandType p1).bind fun v125 => (fX8_resultType p1).bind fun v127 => if v127 = 0 then (if pm_kd h a0 = 8 then (fX8_truncated h a0 v125 32 p1 p2).bind fun v134 => some ((v134.1, v134.2)) else none) else (if pm_kd h a0 = 8 then (fX8_truncated h a0 v125 64 p1 p2).bind fun v131 => some ((v131.1, v131.2)) else none)) else (if p1 = 181 then ((fX8_operandType p1).bind fun v137 => (fX8_resultType p1).bind fun v139 => if v139 = 0 then (if pm_kd h a0 = 8 then (fX8_truncated h a0 v137 32 p1 p2).bind fun v146 => some ((v146.1, v146.2)) else none) else (if pm_kd h a0 = 8 then (fX8_truncated h a0 v137 64 p1 p2).bind fun v143 => some ((v143.1, v143.2)) else none)) else (if p1 = 182 then ((fX8_operandType p1).bind fun v149 => (fX8_resultType p1).bind fun v151 => if v151 = 0 then (if pm_kd h a0 = 8 then (fX8_truncated h a0 v149 32 p1 p2).bind fun v158 => some ((v158.1, v158.2)) else none) else (if pm_kd h a0 = 8 then (fX8_truncated h a0 v149 64 p1 p2).bind fun v155 => some ((v155.1, v155.2)) else none)) else (if p1 = 183 then ((fX8_operandType p1).bind fun v161 => (fX8_resultType p1).bind fun v163 => if v163 = 0 then (if pm_kd h a0 = 8 then (fX8_truncated h a0 v161 32 p1 p2).bind fun v170 => some ((v170.1, v170.2)) else none) else (if pm_kd h a0 = 8 then (fX8_truncated h a0 v161 64 p1 p2).bind fun v167 => some ((v167.1, v167.2)) else none)) else (if p1 = 184 then ((fX8_operandType p1).bind fun v173 => (fX8_resultType p1).bind fun v175 => if v175 = 0 then (if pm_kd h a0 = 8 then (fX8_truncated h a0 v173 32 p1 p2).bind fun v182 => some ((v182.1, v182.2)) else none) else (if pm_kd h a0 = 8 then (fX8_truncated h a0 v173 64 p1 p2).bind fun v179 => some ((v179.1, v179.2)) else none)) else (if p1 = 185 then ((fX8_operandType p1).bind fun v185 => (fX8_resultType p1).bind fun v187 => if v187 = 0 then (if pm_kd h a0 = 8 then (fX8_truncated h a0 v185 32 p1 p2).bind fun v194 => some ((v194.1, v194.2)) else none) else (if pm_kd h a0 = 8 then (fX8_truncated h a0 v185 64 p1 p2).bind fun v191 => some ((v191.1, v191.2)) else none)) else (if p1 = 186 then ((fX8_operandType p1).bind fun v197 => (fX8_resultType p1).bind fun v199 => if v199 = 0 then (if pm_kd h a0 = 8 then (fX8_truncated h a0 v197 32 p1 p2).bind fun v206 => some ((v206.1, v206.2)) else none) else (if pm_kd h a0 = 8 then (fX8_truncated h a0 v197 64 p1 p2).bind fun v203 => some ((v203.1, v203.2)) else none)) else (if p1 = 187 then ((fX8_operandType p1).bind fun v209 => (fX8_resultType p1).bind fun v211 => if v211 = 0 then (if pm_kd h a0 = 8 then (fX8_truncated h a0 v209 32 p1 p2).bind fun v218 => some ((v218.1, v218.2)) else none) else (if pm_kd h a0 = 8 then (fX8_truncated h a0 v209 64 p1 p2).bind fun v215 => some ((v215.1, v215.2)) else none)) else (if p1 = 188 then ((fX8_operandType p1).bind fun v221 => (fX8_resultType p1).bind fun v223 => if v223 = 0 then (if pm_kd h a0 = 8 then (fX8_truncated h a0 v221 32 p1 p2).bind fun v230 => some ((v230.1, v230.2)) else none) else (if pm_kd h a0 = 8 then (fX8_truncated h a0 v221 64 p1 p2).bind fun v227 => some ((v227.1, v227.2)) else none)) else (if p1 = 189 then ((fX8_operandType p1).bind fun v233 => (fX8_resultType p1).bind fun v235 => if v235 = 0 then (if pm_kd h a0 = 8 then (fX8_truncated h a0 v233 32 p1 p2).bind fun v242 => some ((v242.1, v242.2)) else none) else (if pm_kd h a0 = 8 then (fX8_truncated h a0 v233 64 p1 p2).bind fun v239 => some ((v239.1, v239.2)) else none)) else (if p1 = 190 then ((fX8_operandType p1).bind fun v245 => (fX8_resultType p1).bind fun v247 => if v247 = 0 then (if pm_kd h a0 = 8 then (fX8_truncated h a0 v245 32 p1 p2).bind fun v254 => some ((v254.1, v254.2)) else none) else (if pm_kd h a0 = 8 then (fX8_truncated h a0 v245 64 p1 p2).bind fun v251 => some ((v251.1, v251.2)) else none)) else (if p1 = 191 then ((fX8_operandType p1).bind fun v257 => (fX8_resultType p1).bind fun v259 => if v259 = 0 then (if pm_kd h a0 = 8 then (fX8_truncated h a0 v257 32 p1 p2).bind fun v266 => some ((v266.1, v266.2)) else none) else (if pm_kd h a0 = 8 then (fX8_truncated h a0 v257 64 p1 p2).bind fun v263 => some ((v263.1, v263.2)) else none)) else (if p1 = 192 then (some ((p2.toInt32.toInt8.toInt32.toInt64 &&& 4294967295, h))) else (if p1 = 193 then (some ((p2.toInt32.toInt16.toInt32.toInt64 &&& 4294967295, h))) else (if p1 = 194 then (some ((p2.toInt32.toInt8.toInt32.toInt64, h))) else (if p1 = 195 then (some ((p2.toInt32.toInt16.toInt32.toInt64, h))) else (if p1 = 196 then (some ((p2.toInt32.toInt64, h))) else ((fX8_operandType p1).bind fun v273 => (fX8_resultType p1).bind fun v275 => if v275 = 0 then (if pm_kd h a0 = 8 then (fX8_truncated h a0 v273 32 p1 p2).bind fun v282 => some ((v282.1, v282.2)) else none) else (if pm_kd h a0 = 8 then (fX8_truncated h a0 v273 64 p1 p2).bind fun v279 => some ((v279.1, v279.2)) else none)))))))))))))))))))))))))))))))
set_option maxHeartbeats 4000000 in
set_option maxRecDepth 100000 in
theorem ctX8_toWhole {l : Launch} {G : pm_Gl} {h : pm_H} {a0 : Nat} {p1 : Int32} {p2 : Int64} {r : (Int64 × pm_H)} {Qr : Option Value → pm_H → Prop} (hf : fX8_toWhole h a0 p1 p2 = some r) (q : Qr (some (.long r.1)) r.2) : pm_Ct l G mX8_toWhole [.ref a0, .int p1, .long p2] h 0 0 Qr := by
  refine pm_body pnX8 (Nat.le_of_ble_eq_true rfl) (fun g C X => ?_)
  have C : pm_C g cX8_toWhole RX8 := C
  show pm_G g 0 [(0, .ref a0), (1, .int p1), (2, .long p2)] [] h 0 0
  unfold fX8_toWhole at hf
  refine pm_iload_n C dX8_toWhole_0 rfl rfl ?_
  by_cases c1 : p1 = 167
  · have hf := pm_it hf c1
    refine pm_tableIn (tgt := 136) C dX8_toWhole_1 (by rw [c1]; decide) (by rw [c1]; decide) (by rw [c1]; rfl) (by decide) ?_
    refine pm_lload_n C dX8_toWhole_136 rfl rfl ?_
    refine pm_ldc2 C dX8_toWhole_137 cnX8_56 ?_
    refine pm_land C dX8_toWhole_140 ?_
    cases hf
    exact pm_lret C X dX8_toWhole_141 rfl (Nat.le_refl _) (Nat.le_refl _) q
  have hf := pm_ie hf c1
  by_cases c2 : p1 = 168
  · have hf := pm_it hf c2
    refine pm_tableIn (tgt := 184) C dX8_toWhole_1 (by rw [c2]; decide) (by rw [c2]; decide) (by rw [c2]; rfl) (by decide) ?_
    refine pm_aload_n C dX8_toWhole_184 rfl rfl ?_
    refine pm_iload_n C dX8_toWhole_185 rfl rfl ?_
    obtain ⟨v3, e4, hf⟩ := pm_bd hf
    refine pm_callS (as := [.int p1]) (st := [.ref a0]) C X dX8_toWhole_186 lnX8_27 myX8_operandType stX8_operandType ⟨by decide, by decide⟩ rfl rfl (Nat.le_of_ble_eq_true rfl) (Nat.le_refl _) (Nat.le_refl _) (ctX8_operandType e4 ?_)
    show pm_G g 189 [(0, .ref a0), (1, .int p1), (2, .long p2)] [.int v3, .ref a0] h 0 0
    refine pm_iload_n C dX8_toWhole_189 rfl rfl ?_
    obtain ⟨v5, e6, hf⟩ := pm_bd hf
    refine pm_callS (as := [.int p1]) (st := [.int v3, .ref a0]) C X dX8_toWhole_190 lnX8_189 myX8_resultType stX8_resultType ⟨by decide, by decide⟩ rfl rfl (Nat.le_of_ble_eq_true rfl) (Nat.le_refl _) (Nat.le_refl _) (ctX8_resultType e6 ?_)
    show pm_G g 193 [(0, .ref a0), (1, .int p1), (2, .long p2)] [.int v5, .int v3, .ref a0] h 0 0
    refine pm_if_ne (tgt := 201) C dX8_toWhole_193 (by decide) (fun c7 => ?_) (fun c7 => ?_)
    · have hf := pm_ie hf c7
      refine pm_bipush (v := 64) C dX8_toWhole_201 (by decide) ?_
      refine pm_iload_n C dX8_toWhole_203 rfl rfl ?_
      refine pm_lload_n C dX8_toWhole_204 rfl rfl ?_
      obtain ⟨k8, hf⟩ := pm_if hf
      obtain ⟨v9, e10, hf⟩ := pm_bd hf
      refine pm_callV (as := [.int v3, .int 64, .int p1, .long p2]) (st := []) C X dX8_toWhole_205 lnX8_192 myX8_truncated viX8_truncated ⟨by decide, by decide⟩ rfl rfl k8 (Nat.le_of_ble_eq_true rfl) (Nat.le_refl _) (Nat.le_refl _) (ctX8_truncated e10 ?_)
      show pm_G g 208 [(0, .ref a0), (1, .int p1), (2, .long p2)] [.long v9.1] v9.2 0 0
      cases hf
      exact pm_lret C X dX8_toWhole_208 rfl (Nat.le_refl _) (Nat.le_refl _) q
    · have hf := pm_it hf c7
      refine pm_bipush (v := 32) C dX8_toWhole_196 (by decide) ?_
      refine pm_goto (tgt := 203) C dX8_toWhole_198 (by decide) ?_
      refine pm_iload_n C dX8_toWhole_203 rfl rfl ?_
      refine pm_lload_n C dX8_toWhole_204 rfl rfl ?_
      obtain ⟨k11, hf⟩ := pm_if hf
      obtain ⟨v12, e13, hf⟩ := pm_bd hf
      refine pm_callV (as := [.int v3, .int 32, .int p1, .long p2]) (st := []) C X dX8_toWhole_205 lnX8_192 myX8_truncated viX8_truncated ⟨by decide, by decide⟩ rfl rfl k11 (Nat.le_of_ble_eq_true rfl) (Nat.le_refl _) (Nat.le_refl _) (ctX8_truncated e13 ?_)
      show pm_G g 208 [(0, .ref a0), (1, .int p1), (2, .long p2)] [.long v12.1] v12.2 0 0
      cases hf
      exact pm_lret C X dX8_toWhole_208 rfl (Nat.le_refl _) (Nat.le_refl _) q
  have hf := pm_ie hf c2
  by_cases c14 : p1 = 169
  · have hf := pm_it hf c14
    refine pm_tableIn (tgt := 184) C dX8_toWhole_1 (by rw [c14]; decide) (by rw [c14]; decide) (by rw [c14]; rfl) (by decide) ?_
    refine pm_aload_n C dX8_toWhole_184 rfl rfl ?_
    refine pm_iload_n C dX8_toWhole_185 rfl rfl ?_
    obtain ⟨v15, e16, hf⟩ := pm_bd hf
    refine pm_callS (as := [.int p1]) (st := [.ref a0]) C X dX8_toWhole_186 lnX8_27 myX8_operandType stX8_operandType ⟨by decide, by decide⟩ rfl rfl (Nat.le_of_ble_eq_true rfl) (Nat.le_refl _) (Nat.le_refl _) (ctX8_operandType e16 ?_)
    show pm_G g 189 [(0, .ref a0), (1, .int p1), (2, .long p2)] [.int v15, .ref a0] h 0 0
    refine pm_iload_n C dX8_toWhole_189 rfl rfl ?_
    obtain ⟨v17, e18, hf⟩ := pm_bd hf
    refine pm_callS (as := [.int p1]) (st := [.int v15, .ref a0]) C X dX8_toWhole_190 lnX8_189 myX8_resultType stX8_resultType ⟨by decide, by decide⟩ rfl rfl (Nat.le_of_ble_eq_true rfl) (Nat.le_refl _) (Nat.le_refl _) (ctX8_resultType e18 ?_)
    show pm_G g 193 [(0, .ref a0), (1, .int p1), (2, .long p2)] [.int v17, .int v15, .ref a0] h 0 0
    refine pm_if_ne (tgt := 201) C dX8_toWhole_193 (by decide) (fun c19 => ?_) (fun c19 => ?_)
    · have hf := pm_ie hf c19
      refine pm_bipush (v := 64) C dX8_toWhole_201 (by decide) ?_
      refine pm_iload_n C dX8_toWhole_203 rfl rfl ?_
      refine pm_lload_n C dX8_toWhole_204 rfl rfl ?_
      obtain ⟨k20, hf⟩ := pm_if hf
      obtain ⟨v21, e22, hf⟩ := pm_bd hf
      refine pm_callV (as := [.int v15, .int 64, .int p1, .long p2]) (st := []) C X dX8_toWhole_205 lnX8_192 myX8_truncated viX8_truncated ⟨by decide, by decide⟩ rfl rfl k20 (Nat.le_of_ble_eq_true rfl) (Nat.le_refl _) (Nat.le_refl _) (ctX8_truncated e22 ?_)
      show pm_G g 208 [(0, .ref a0), (1, .int p1), (2, .long p2)] [.long v21.1] v21.2 0 0
      cases hf
      exact pm_lret C X dX8_toWhole_208 rfl (Nat.le_refl _) (Nat.le_refl _) q
    · have hf := pm_it hf c19
      refine pm_bipush (v := 32) C dX8_toWhole_196 (by decide) ?_
      refine pm_goto (tgt := 203) C dX8_toWhole_198 (by decide) ?_
      refine pm_iload_n C dX8_toWhole_203 rfl rfl ?_
      refine pm_lload_n C dX8_toWhole_204 rfl rfl ?_
      obtain ⟨k23, hf⟩ := pm_if hf
      obtain ⟨v24, e25, hf⟩ := pm_bd hf
      refine pm_callV (as := [.int v15, .int 32, .int p1, .long p2]) (st := []) C X dX8_toWhole_205 lnX8_192 myX8_truncated viX8_truncated ⟨by decide, by decide⟩ rfl rfl k23 (Nat.le_of_ble_eq_true rfl) (Nat.le_refl _) (Nat.le_refl _) (ctX8_truncated e25 ?_)
      show pm_G g 208 [(0, .ref a0), (1, .int p1), (2, .long p2)] [.long v24.1] v24.2 0 0
      cases hf
      exact pm_lret C X dX8_toWhole_208 rfl (Nat.le_refl _) (Nat.le_refl _) q
  have hf := pm_ie hf c14
  by_cases c26 : p1 = 170
  · have hf := pm_it hf c26
    refine pm_tableIn (tgt := 184) C dX8_toWhole_1 (by rw [c26]; decide) (by rw [c26]; decide) (by rw [c26]; rfl) (by decide) ?_
    refine pm_aload_n C dX8_toWhole_184 rfl rfl ?_
    refine pm_iload_n C dX8_toWhole_185 rfl rfl ?_
    obtain ⟨v27, e28, hf⟩ := pm_bd hf
    refine pm_callS (as := [.int p1]) (st := [.ref a0]) C X dX8_toWhole_186 lnX8_27 myX8_operandType stX8_operandType ⟨by decide, by decide⟩ rfl rfl (Nat.le_of_ble_eq_true rfl) (Nat.le_refl _) (Nat.le_refl _) (ctX8_operandType e28 ?_)
    show pm_G g 189 [(0, .ref a0), (1, .int p1), (2, .long p2)] [.int v27, .ref a0] h 0 0
    refine pm_iload_n C dX8_toWhole_189 rfl rfl ?_
    obtain ⟨v29, e30, hf⟩ := pm_bd hf
    refine pm_callS (as := [.int p1]) (st := [.int v27, .ref a0]) C X dX8_toWhole_190 lnX8_189 myX8_resultType stX8_resultType ⟨by decide, by decide⟩ rfl rfl (Nat.le_of_ble_eq_true rfl) (Nat.le_refl _) (Nat.le_refl _) (ctX8_resultType e30 ?_)
    show pm_G g 193 [(0, .ref a0), (1, .int p1), (2, .long p2)] [.int v29, .int v27, .ref a0] h 0 0
    refine pm_if_ne (tgt := 201) C dX8_toWhole_193 (by decide) (fun c31 => ?_) (fun c31 => ?_)
    · have hf := pm_ie hf c31
      refine pm_bipush (v := 64) C dX8_toWhole_201 (by decide) ?_
      refine pm_iload_n C dX8_toWhole_203 rfl rfl ?_
      refine pm_lload_n C dX8_toWhole_204 rfl rfl ?_
      obtain ⟨k32, hf⟩ := pm_if hf
      obtain ⟨v33, e34, hf⟩ := pm_bd hf
      refine pm_callV (as := [.int v27, .int 64, .int p1, .long p2]) (st := []) C X dX8_toWhole_205 lnX8_192 myX8_truncated viX8_truncated ⟨by decide, by decide⟩ rfl rfl k32 (Nat.le_of_ble_eq_true rfl) (Nat.le_refl _) (Nat.le_refl _) (ctX8_truncated e34 ?_)
      show pm_G g 208 [(0, .ref a0), (1, .int p1), (2, .long p2)] [.long v33.1] v33.2 0 0
      cases hf
      exact pm_lret C X dX8_toWhole_208 rfl (Nat.le_refl _) (Nat.le_refl _) q
    · have hf := pm_it hf c31
      refine pm_bipush (v := 32) C dX8_toWhole_196 (by decide) ?_
      refine pm_goto (tgt := 203) C dX8_toWhole_198 (by decide) ?_
      refine pm_iload_n C dX8_toWhole_203 rfl rfl ?_
      refine pm_lload_n C dX8_toWhole_204 rfl rfl ?_
      obtain ⟨k35, hf⟩ := pm_if hf
      obtain ⟨v36, e37, hf⟩ := pm_bd hf
      refine pm_callV (as := [.int v27, .int 32, .int p1, .long p2]) (st := []) C X dX8_toWhole_205 lnX8_192 myX8_truncated viX8_truncated ⟨by decide, by decide⟩ rfl rfl k35 (Nat.le_of_ble_eq_true rfl) (Nat.le_refl _) (Nat.le_refl _) (ctX8_truncated e37 ?_)
      show pm_G g 208 [(0, .ref a0), (1, .int p1), (2, .long p2)] [.long v36.1] v36.2 0 0
      cases hf
      exact pm_lret C X dX8_toWhole_208 rfl (Nat.le_refl _) (Nat.le_refl _) q
  have hf := pm_ie hf c26
  by_cases c38 : p1 = 171
  · have hf := pm_it hf c38
    refine pm_tableIn (tgt := 184) C dX8_toWhole_1 (by rw [c38]; decide) (by rw [c38]; decide) (by rw [c38]; rfl) (by decide) ?_
    refine pm_aload_n C dX8_toWhole_184 rfl rfl ?_
    refine pm_iload_n C dX8_toWhole_185 rfl rfl ?_
    obtain ⟨v39, e40, hf⟩ := pm_bd hf
    refine pm_callS (as := [.int p1]) (st := [.ref a0]) C X dX8_toWhole_186 lnX8_27 myX8_operandType stX8_operandType ⟨by decide, by decide⟩ rfl rfl (Nat.le_of_ble_eq_true rfl) (Nat.le_refl _) (Nat.le_refl _) (ctX8_operandType e40 ?_)
    show pm_G g 189 [(0, .ref a0), (1, .int p1), (2, .long p2)] [.int v39, .ref a0] h 0 0
    refine pm_iload_n C dX8_toWhole_189 rfl rfl ?_
    obtain ⟨v41, e42, hf⟩ := pm_bd hf
    refine pm_callS (as := [.int p1]) (st := [.int v39, .ref a0]) C X dX8_toWhole_190 lnX8_189 myX8_resultType stX8_resultType ⟨by decide, by decide⟩ rfl rfl (Nat.le_of_ble_eq_true rfl) (Nat.le_refl _) (Nat.le_refl _) (ctX8_resultType e42 ?_)
    show pm_G g 193 [(0, .ref a0), (1, .int p1), (2, .long p2)] [.int v41, .int v39, .ref a0] h 0 0
    refine pm_if_ne (tgt := 201) C dX8_toWhole_193 (by decide) (fun c43 => ?_) (fun c43 => ?_)
    · have hf := pm_ie hf c43
      refine pm_bipush (v := 64) C dX8_toWhole_201 (by decide) ?_
      refine pm_iload_n C dX8_toWhole_203 rfl rfl ?_
      refine pm_lload_n C dX8_toWhole_204 rfl rfl ?_
      obtain ⟨k44, hf⟩ := pm_if hf
      obtain ⟨v45, e46, hf⟩ := pm_bd hf
      refine pm_callV (as := [.int v39, .int 64, .int p1, .long p2]) (st := []) C X dX8_toWhole_205 lnX8_192 myX8_truncated viX8_truncated ⟨by decide, by decide⟩ rfl rfl k44 (Nat.le_of_ble_eq_true rfl) (Nat.le_refl _) (Nat.le_refl _) (ctX8_truncated e46 ?_)
      show pm_G g 208 [(0, .ref a0), (1, .int p1), (2, .long p2)] [.long v45.1] v45.2 0 0
      cases hf
      exact pm_lret C X dX8_toWhole_208 rfl (Nat.le_refl _) (Nat.le_refl _) q
    · have hf := pm_it hf c43
      refine pm_bipush (v := 32) C dX8_toWhole_196 (by decide) ?_
      refine pm_goto (tgt := 203) C dX8_toWhole_198 (by decide) ?_
      refine pm_iload_n C dX8_toWhole_203 rfl rfl ?_
      refine pm_lload_n C dX8_toWhole_204 rfl rfl ?_
      obtain ⟨k47, hf⟩ := pm_if hf
      obtain ⟨v48, e49, hf⟩ := pm_bd hf
      refine pm_callV (as := [.int v39, .int 32, .int p1, .long p2]) (st := []) C X dX8_toWhole_205 lnX8_192 myX8_truncated viX8_truncated ⟨by decide, by decide⟩ rfl rfl k47 (Nat.le_of_ble_eq_true rfl) (Nat.le_refl _) (Nat.le_refl _) (ctX8_truncated e49 ?_)
      show pm_G g 208 [(0, .ref a0), (1, .int p1), (2, .long p2)] [.long v48.1] v48.2 0 0
      cases hf
      exact pm_lret C X dX8_toWhole_208 rfl (Nat.le_refl _) (Nat.le_refl _) q
  have hf := pm_ie hf c38
  by_cases c50 : p1 = 172
  · have hf := pm_it hf c50
    refine pm_tableIn (tgt := 142) C dX8_toWhole_1 (by rw [c50]; decide) (by rw [c50]; decide) (by rw [c50]; rfl) (by decide) ?_
    refine pm_lload_n C dX8_toWhole_142 rfl rfl ?_
    refine pm_l2i C dX8_toWhole_143 ?_
    refine pm_i2l C dX8_toWhole_144 ?_
    cases hf
    exact pm_lret C X dX8_toWhole_145 rfl (Nat.le_refl _) (Nat.le_refl _) q
  have hf := pm_ie hf c50
  by_cases c51 : p1 = 173
  · have hf := pm_it hf c51
    refine pm_tableIn (tgt := 146) C dX8_toWhole_1 (by rw [c51]; decide) (by rw [c51]; decide) (by rw [c51]; rfl) (by decide) ?_
    refine pm_lload_n C dX8_toWhole_146 rfl rfl ?_
    refine pm_ldc2 C dX8_toWhole_147 cnX8_56 ?_
    refine pm_land C dX8_toWhole_150 ?_
    cases hf
    exact pm_lret C X dX8_toWhole_151 rfl (Nat.le_refl _) (Nat.le_refl _) q
  have hf := pm_ie hf c51
  by_cases c52 : p1 = 174
  · have hf := pm_it hf c52
    refine pm_tableIn (tgt := 184) C dX8_toWhole_1 (by rw [c52]; decide) (by rw [c52]; decide) (by rw [c52]; rfl) (by decide) ?_
    refine pm_aload_n C dX8_toWhole_184 rfl rfl ?_
    refine pm_iload_n C dX8_toWhole_185 rfl rfl ?_
    obtain ⟨v53, e54, hf⟩ := pm_bd hf
    refine pm_callS (as := [.int p1]) (st := [.ref a0]) C X dX8_toWhole_186 lnX8_27 myX8_operandType stX8_operandType ⟨by decide, by decide⟩ rfl rfl (Nat.le_of_ble_eq_true rfl) (Nat.le_refl _) (Nat.le_refl _) (ctX8_operandType e54 ?_)
    show pm_G g 189 [(0, .ref a0), (1, .int p1), (2, .long p2)] [.int v53, .ref a0] h 0 0
    refine pm_iload_n C dX8_toWhole_189 rfl rfl ?_
    obtain ⟨v55, e56, hf⟩ := pm_bd hf
    refine pm_callS (as := [.int p1]) (st := [.int v53, .ref a0]) C X dX8_toWhole_190 lnX8_189 myX8_resultType stX8_resultType ⟨by decide, by decide⟩ rfl rfl (Nat.le_of_ble_eq_true rfl) (Nat.le_refl _) (Nat.le_refl _) (ctX8_resultType e56 ?_)
    show pm_G g 193 [(0, .ref a0), (1, .int p1), (2, .long p2)] [.int v55, .int v53, .ref a0] h 0 0
    refine pm_if_ne (tgt := 201) C dX8_toWhole_193 (by decide) (fun c57 => ?_) (fun c57 => ?_)
    · have hf := pm_ie hf c57
      refine pm_bipush (v := 64) C dX8_toWhole_201 (by decide) ?_
      refine pm_iload_n C dX8_toWhole_203 rfl rfl ?_
      refine pm_lload_n C dX8_toWhole_204 rfl rfl ?_
      obtain ⟨k58, hf⟩ := pm_if hf
      obtain ⟨v59, e60, hf⟩ := pm_bd hf
      refine pm_callV (as := [.int v53, .int 64, .int p1, .long p2]) (st := []) C X dX8_toWhole_205 lnX8_192 myX8_truncated viX8_truncated ⟨by decide, by decide⟩ rfl rfl k58 (Nat.le_of_ble_eq_true rfl) (Nat.le_refl _) (Nat.le_refl _) (ctX8_truncated e60 ?_)
      show pm_G g 208 [(0, .ref a0), (1, .int p1), (2, .long p2)] [.long v59.1] v59.2 0 0
      cases hf
      exact pm_lret C X dX8_toWhole_208 rfl (Nat.le_refl _) (Nat.le_refl _) q
    · have hf := pm_it hf c57
      refine pm_bipush (v := 32) C dX8_toWhole_196 (by decide) ?_
      refine pm_goto (tgt := 203) C dX8_toWhole_198 (by decide) ?_
      refine pm_iload_n C dX8_toWhole_203 rfl rfl ?_
      refine pm_lload_n C dX8_toWhole_204 rfl rfl ?_
      obtain ⟨k61, hf⟩ := pm_if hf
      obtain ⟨v62, e63, hf⟩ := pm_bd hf
      refine pm_callV (as := [.int v53, .int 32, .int p1, .long p2]) (st := []) C X dX8_toWhole_205 lnX8_192 myX8_truncated viX8_truncated ⟨by decide, by decide⟩ rfl rfl k61 (Nat.le_of_ble_eq_true rfl) (Nat.le_refl _) (Nat.le_refl _) (ctX8_truncated e63 ?_)
      show pm_G g 208 [(0, .ref a0), (1, .int p1), (2, .long p2)] [.long v62.1] v62.2 0 0
      cases hf
      exact pm_lret C X dX8_toWhole_208 rfl (Nat.le_refl _) (Nat.le_refl _) q
  have hf := pm_ie hf c52
  by_cases c64 : p1 = 175
  · have hf := pm_it hf c64
    refine pm_tableIn (tgt := 184) C dX8_toWhole_1 (by rw [c64]; decide) (by rw [c64]; decide) (by rw [c64]; rfl) (by decide) ?_
    refine pm_aload_n C dX8_toWhole_184 rfl rfl ?_
    refine pm_iload_n C dX8_toWhole_185 rfl rfl ?_
    obtain ⟨v65, e66, hf⟩ := pm_bd hf
    refine pm_callS (as := [.int p1]) (st := [.ref a0]) C X dX8_toWhole_186 lnX8_27 myX8_operandType stX8_operandType ⟨by decide, by decide⟩ rfl rfl (Nat.le_of_ble_eq_true rfl) (Nat.le_refl _) (Nat.le_refl _) (ctX8_operandType e66 ?_)
    show pm_G g 189 [(0, .ref a0), (1, .int p1), (2, .long p2)] [.int v65, .ref a0] h 0 0
    refine pm_iload_n C dX8_toWhole_189 rfl rfl ?_
    obtain ⟨v67, e68, hf⟩ := pm_bd hf
    refine pm_callS (as := [.int p1]) (st := [.int v65, .ref a0]) C X dX8_toWhole_190 lnX8_189 myX8_resultType stX8_resultType ⟨by decide, by decide⟩ rfl rfl (Nat.le_of_ble_eq_true rfl) (Nat.le_refl _) (Nat.le_refl _) (ctX8_resultType e68 ?_)
    show pm_G g 193 [(0, .ref a0), (1, .int p1), (2, .long p2)] [.int v67, .int v65, .ref a0] h 0 0
    refine pm_if_ne (tgt := 201) C dX8_toWhole_193 (by decide) (fun c69 => ?_) (fun c69 => ?_)
    · have hf := pm_ie hf c69
      refine pm_bipush (v := 64) C dX8_toWhole_201 (by decide) ?_
      refine pm_iload_n C dX8_toWhole_203 rfl rfl ?_
      refine pm_lload_n C dX8_toWhole_204 rfl rfl ?_
      obtain ⟨k70, hf⟩ := pm_if hf
      obtain ⟨v71, e72, hf⟩ := pm_bd hf
      refine pm_callV (as := [.int v65, .int 64, .int p1, .long p2]) (st := []) C X dX8_toWhole_205 lnX8_192 myX8_truncated viX8_truncated ⟨by decide, by decide⟩ rfl rfl k70 (Nat.le_of_ble_eq_true rfl) (Nat.le_refl _) (Nat.le_refl _) (ctX8_truncated e72 ?_)
      show pm_G g 208 [(0, .ref a0), (1, .int p1), (2, .long p2)] [.long v71.1] v71.2 0 0
      cases hf
      exact pm_lret C X dX8_toWhole_208 rfl (Nat.le_refl _) (Nat.le_refl _) q
    · have hf := pm_it hf c69
      refine pm_bipush (v := 32) C dX8_toWhole_196 (by decide) ?_
      refine pm_goto (tgt := 203) C dX8_toWhole_198 (by decide) ?_
      refine pm_iload_n C dX8_toWhole_203 rfl rfl ?_
      refine pm_lload_n C dX8_toWhole_204 rfl rfl ?_
      obtain ⟨k73, hf⟩ := pm_if hf
      obtain ⟨v74, e75, hf⟩ := pm_bd hf
      refine pm_callV (as := [.int v65, .int 32, .int p1, .long p2]) (st := []) C X dX8_toWhole_205 lnX8_192 myX8_truncated viX8_truncated ⟨by decide, by decide⟩ rfl rfl k73 (Nat.le_of_ble_eq_true rfl) (Nat.le_refl _) (Nat.le_refl _) (ctX8_truncated e75 ?_)
      show pm_G g 208 [(0, .ref a0), (1, .int p1), (2, .long p2)] [.long v74.1] v74.2 0 0
      cases hf
      exact pm_lret C X dX8_toWhole_208 rfl (Nat.le_refl _) (Nat.le_refl _) q
  have hf := pm_ie hf c64
  by_cases c76 : p1 = 176
  · have hf := pm_it hf c76
    refine pm_tableIn (tgt := 184) C dX8_toWhole_1 (by rw [c76]; decide) (by rw [c76]; decide) (by rw [c76]; rfl) (by decide) ?_
    refine pm_aload_n C dX8_toWhole_184 rfl rfl ?_
    refine pm_iload_n C dX8_toWhole_185 rfl rfl ?_
    obtain ⟨v77, e78, hf⟩ := pm_bd hf
    refine pm_callS (as := [.int p1]) (st := [.ref a0]) C X dX8_toWhole_186 lnX8_27 myX8_operandType stX8_operandType ⟨by decide, by decide⟩ rfl rfl (Nat.le_of_ble_eq_true rfl) (Nat.le_refl _) (Nat.le_refl _) (ctX8_operandType e78 ?_)
    show pm_G g 189 [(0, .ref a0), (1, .int p1), (2, .long p2)] [.int v77, .ref a0] h 0 0
    refine pm_iload_n C dX8_toWhole_189 rfl rfl ?_
    obtain ⟨v79, e80, hf⟩ := pm_bd hf
    refine pm_callS (as := [.int p1]) (st := [.int v77, .ref a0]) C X dX8_toWhole_190 lnX8_189 myX8_resultType stX8_resultType ⟨by decide, by decide⟩ rfl rfl (Nat.le_of_ble_eq_true rfl) (Nat.le_refl _) (Nat.le_refl _) (ctX8_resultType e80 ?_)
    show pm_G g 193 [(0, .ref a0), (1, .int p1), (2, .long p2)] [.int v79, .int v77, .ref a0] h 0 0
    refine pm_if_ne (tgt := 201) C dX8_toWhole_193 (by decide) (fun c81 => ?_) (fun c81 => ?_)
    · have hf := pm_ie hf c81
      refine pm_bipush (v := 64) C dX8_toWhole_201 (by decide) ?_
      refine pm_iload_n C dX8_toWhole_203 rfl rfl ?_
      refine pm_lload_n C dX8_toWhole_204 rfl rfl ?_
      obtain ⟨k82, hf⟩ := pm_if hf
      obtain ⟨v83, e84, hf⟩ := pm_bd hf
      refine pm_callV (as := [.int v77, .int 64, .int p1, .long p2]) (st := []) C X dX8_toWhole_205 lnX8_192 myX8_truncated viX8_truncated ⟨by decide, by decide⟩ rfl rfl k82 (Nat.le_of_ble_eq_true rfl) (Nat.le_refl _) (Nat.le_refl _) (ctX8_truncated e84 ?_)
      show pm_G g 208 [(0, .ref a0), (1, .int p1), (2, .long p2)] [.long v83.1] v83.2 0 0
      cases hf
      exact pm_lret C X dX8_toWhole_208 rfl (Nat.le_refl _) (Nat.le_refl _) q
    · have hf := pm_it hf c81
      refine pm_bipush (v := 32) C dX8_toWhole_196 (by decide) ?_
      refine pm_goto (tgt := 203) C dX8_toWhole_198 (by decide) ?_
      refine pm_iload_n C dX8_toWhole_203 rfl rfl ?_
      refine pm_lload_n C dX8_toWhole_204 rfl rfl ?_
      obtain ⟨k85, hf⟩ := pm_if hf
      obtain ⟨v86, e87, hf⟩ := pm_bd hf
      refine pm_callV (as := [.int v77, .int 32, .int p1, .long p2]) (st := []) C X dX8_toWhole_205 lnX8_192 myX8_truncated viX8_truncated ⟨by decide, by decide⟩ rfl rfl k85 (Nat.le_of_ble_eq_true rfl) (Nat.le_refl _) (Nat.le_refl _) (ctX8_truncated e87 ?_)
      show pm_G g 208 [(0, .ref a0), (1, .int p1), (2, .long p2)] [.long v86.1] v86.2 0 0
      cases hf
      exact pm_lret C X dX8_toWhole_208 rfl (Nat.le_refl _) (Nat.le_refl _) q
  have hf := pm_ie hf c76
  by_cases c88 : p1 = 177
  · have hf := pm_it hf c88
    refine pm_tableIn (tgt := 184) C dX8_toWhole_1 (by rw [c88]; decide) (by rw [c88]; decide) (by rw [c88]; rfl) (by decide) ?_
    refine pm_aload_n C dX8_toWhole_184 rfl rfl ?_
    refine pm_iload_n C dX8_toWhole_185 rfl rfl ?_
    obtain ⟨v89, e90, hf⟩ := pm_bd hf
    refine pm_callS (as := [.int p1]) (st := [.ref a0]) C X dX8_toWhole_186 lnX8_27 myX8_operandType stX8_operandType ⟨by decide, by decide⟩ rfl rfl (Nat.le_of_ble_eq_true rfl) (Nat.le_refl _) (Nat.le_refl _) (ctX8_operandType e90 ?_)
    show pm_G g 189 [(0, .ref a0), (1, .int p1), (2, .long p2)] [.int v89, .ref a0] h 0 0
    refine pm_iload_n C dX8_toWhole_189 rfl rfl ?_
    obtain ⟨v91, e92, hf⟩ := pm_bd hf
    refine pm_callS (as := [.int p1]) (st := [.int v89, .ref a0]) C X dX8_toWhole_190 lnX8_189 myX8_resultType stX8_resultType ⟨by decide, by decide⟩ rfl rfl (Nat.le_of_ble_eq_true rfl) (Nat.le_refl _) (Nat.le_refl _) (ctX8_resultType e92 ?_)
    show pm_G g 193 [(0, .ref a0), (1, .int p1), (2, .long p2)] [.int v91, .int v89, .ref a0] h 0 0
    refine pm_if_ne (tgt := 201) C dX8_toWhole_193 (by decide) (fun c93 => ?_) (fun c93 => ?_)
    · have hf := pm_ie hf c93
      refine pm_bipush (v := 64) C dX8_toWhole_201 (by decide) ?_
      refine pm_iload_n C dX8_toWhole_203 rfl rfl ?_
      refine pm_lload_n C dX8_toWhole_204 rfl rfl ?_
      obtain ⟨k94, hf⟩ := pm_if hf
      obtain ⟨v95, e96, hf⟩ := pm_bd hf
      refine pm_callV (as := [.int v89, .int 64, .int p1, .long p2]) (st := []) C X dX8_toWhole_205 lnX8_192 myX8_truncated viX8_truncated ⟨by decide, by decide⟩ rfl rfl k94 (Nat.le_of_ble_eq_true rfl) (Nat.le_refl _) (Nat.le_refl _) (ctX8_truncated e96 ?_)
      show pm_G g 208 [(0, .ref a0), (1, .int p1), (2, .long p2)] [.long v95.1] v95.2 0 0
      cases hf
      exact pm_lret C X dX8_toWhole_208 rfl (Nat.le_refl _) (Nat.le_refl _) q
    · have hf := pm_it hf c93
      refine pm_bipush (v := 32) C dX8_toWhole_196 (by decide) ?_
      refine pm_goto (tgt := 203) C dX8_toWhole_198 (by decide) ?_
      refine pm_iload_n C dX8_toWhole_203 rfl rfl ?_
      refine pm_lload_n C dX8_toWhole_204 rfl rfl ?_
      obtain ⟨k97, hf⟩ := pm_if hf
      obtain ⟨v98, e99, hf⟩ := pm_bd hf
      refine pm_callV (as := [.int v89, .int 32, .int p1, .long p2]) (st := []) C X dX8_toWhole_205 lnX8_192 myX8_truncated viX8_truncated ⟨by decide, by decide⟩ rfl rfl k97 (Nat.le_of_ble_eq_true rfl) (Nat.le_refl _) (Nat.le_refl _) (ctX8_truncated e99 ?_)
      show pm_G g 208 [(0, .ref a0), (1, .int p1), (2, .long p2)] [.long v98.1] v98.2 0 0
      cases hf
      exact pm_lret C X dX8_toWhole_208 rfl (Nat.le_refl _) (Nat.le_refl _) q
  have hf := pm_ie hf c88
  by_cases c100 : p1 = 178
  · have hf := pm_it hf c100
    refine pm_tableIn (tgt := 184) C dX8_toWhole_1 (by rw [c100]; decide) (by rw [c100]; decide) (by rw [c100]; rfl) (by decide) ?_
    refine pm_aload_n C dX8_toWhole_184 rfl rfl ?_
    refine pm_iload_n C dX8_toWhole_185 rfl rfl ?_
    obtain ⟨v101, e102, hf⟩ := pm_bd hf
    refine pm_callS (as := [.int p1]) (st := [.ref a0]) C X dX8_toWhole_186 lnX8_27 myX8_operandType stX8_operandType ⟨by decide, by decide⟩ rfl rfl (Nat.le_of_ble_eq_true rfl) (Nat.le_refl _) (Nat.le_refl _) (ctX8_operandType e102 ?_)
    show pm_G g 189 [(0, .ref a0), (1, .int p1), (2, .long p2)] [.int v101, .ref a0] h 0 0
    refine pm_iload_n C dX8_toWhole_189 rfl rfl ?_
    obtain ⟨v103, e104, hf⟩ := pm_bd hf
    refine pm_callS (as := [.int p1]) (st := [.int v101, .ref a0]) C X dX8_toWhole_190 lnX8_189 myX8_resultType stX8_resultType ⟨by decide, by decide⟩ rfl rfl (Nat.le_of_ble_eq_true rfl) (Nat.le_refl _) (Nat.le_refl _) (ctX8_resultType e104 ?_)
    show pm_G g 193 [(0, .ref a0), (1, .int p1), (2, .long p2)] [.int v103, .int v101, .ref a0] h 0 0
    refine pm_if_ne (tgt := 201) C dX8_toWhole_193 (by decide) (fun c105 => ?_) (fun c105 => ?_)
    · have hf := pm_ie hf c105
      refine pm_bipush (v := 64) C dX8_toWhole_201 (by decide) ?_
      refine pm_iload_n C dX8_toWhole_203 rfl rfl ?_
      refine pm_lload_n C dX8_toWhole_204 rfl rfl ?_
      obtain ⟨k106, hf⟩ := pm_if hf
      obtain ⟨v107, e108, hf⟩ := pm_bd hf
      refine pm_callV (as := [.int v101, .int 64, .int p1, .long p2]) (st := []) C X dX8_toWhole_205 lnX8_192 myX8_truncated viX8_truncated ⟨by decide, by decide⟩ rfl rfl k106 (Nat.le_of_ble_eq_true rfl) (Nat.le_refl _) (Nat.le_refl _) (ctX8_truncated e108 ?_)
      show pm_G g 208 [(0, .ref a0), (1, .int p1), (2, .long p2)] [.long v107.1] v107.2 0 0
      cases hf
      exact pm_lret C X dX8_toWhole_208 rfl (Nat.le_refl _) (Nat.le_refl _) q
    · have hf := pm_it hf c105
      refine pm_bipush (v := 32) C dX8_toWhole_196 (by decide) ?_
      refine pm_goto (tgt := 203) C dX8_toWhole_198 (by decide) ?_
      refine pm_iload_n C dX8_toWhole_203 rfl rfl ?_
      refine pm_lload_n C dX8_toWhole_204 rfl rfl ?_
      obtain ⟨k109, hf⟩ := pm_if hf
      obtain ⟨v110, e111, hf⟩ := pm_bd hf
      refine pm_callV (as := [.int v101, .int 32, .int p1, .long p2]) (st := []) C X dX8_toWhole_205 lnX8_192 myX8_truncated viX8_truncated ⟨by decide, by decide⟩ rfl rfl k109 (Nat.le_of_ble_eq_true rfl) (Nat.le_refl _) (Nat.le_refl _) (ctX8_truncated e111 ?_)
      show pm_G g 208 [(0, .ref a0), (1, .int p1), (2, .long p2)] [.long v110.1] v110.2 0 0
      cases hf
      exact pm_lret C X dX8_toWhole_208 rfl (Nat.le_refl _) (Nat.le_refl _) q
  have hf := pm_ie hf c100
  by_cases c112 : p1 = 179
  · have hf := pm_it hf c112
    refine pm_tableIn (tgt := 184) C dX8_toWhole_1 (by rw [c112]; decide) (by rw [c112]; decide) (by rw [c112]; rfl) (by decide) ?_
    refine pm_aload_n C dX8_toWhole_184 rfl rfl ?_
    refine pm_iload_n C dX8_toWhole_185 rfl rfl ?_
    obtain ⟨v113, e114, hf⟩ := pm_bd hf
    refine pm_callS (as := [.int p1]) (st := [.ref a0]) C X dX8_toWhole_186 lnX8_27 myX8_operandType stX8_operandType ⟨by decide, by decide⟩ rfl rfl (Nat.le_of_ble_eq_true rfl) (Nat.le_refl _) (Nat.le_refl _) (ctX8_operandType e114 ?_)
    show pm_G g 189 [(0, .ref a0), (1, .int p1), (2, .long p2)] [.int v113, .ref a0] h 0 0
    refine pm_iload_n C dX8_toWhole_189 rfl rfl ?_
    obtain ⟨v115, e116, hf⟩ := pm_bd hf
    refine pm_callS (as := [.int p1]) (st := [.int v113, .ref a0]) C X dX8_toWhole_190 lnX8_189 myX8_resultType stX8_resultType ⟨by decide, by decide⟩ rfl rfl (Nat.le_of_ble_eq_true rfl) (Nat.le_refl _) (Nat.le_refl _) (ctX8_resultType e116 ?_)
    show pm_G g 193 [(0, .ref a0), (1, .int p1), (2, .long p2)] [.int v115, .int v113, .ref a0] h 0 0
    refine pm_if_ne (tgt := 201) C dX8_toWhole_193 (by decide) (fun c117 => ?_) (fun c117 => ?_)
    · have hf := pm_ie hf c117
      refine pm_bipush (v := 64) C dX8_toWhole_201 (by decide) ?_
      refine pm_iload_n C dX8_toWhole_203 rfl rfl ?_
      refine pm_lload_n C dX8_toWhole_204 rfl rfl ?_
      obtain ⟨k118, hf⟩ := pm_if hf
      obtain ⟨v119, e120, hf⟩ := pm_bd hf
      refine pm_callV (as := [.int v113, .int 64, .int p1, .long p2]) (st := []) C X dX8_toWhole_205 lnX8_192 myX8_truncated viX8_truncated ⟨by decide, by decide⟩ rfl rfl k118 (Nat.le_of_ble_eq_true rfl) (Nat.le_refl _) (Nat.le_refl _) (ctX8_truncated e120 ?_)
      show pm_G g 208 [(0, .ref a0), (1, .int p1), (2, .long p2)] [.long v119.1] v119.2 0 0
      cases hf
      exact pm_lret C X dX8_toWhole_208 rfl (Nat.le_refl _) (Nat.le_refl _) q
    · have hf := pm_it hf c117
      refine pm_bipush (v := 32) C dX8_toWhole_196 (by decide) ?_
      refine pm_goto (tgt := 203) C dX8_toWhole_198 (by decide) ?_
      refine pm_iload_n C dX8_toWhole_203 rfl rfl ?_
      refine pm_lload_n C dX8_toWhole_204 rfl rfl ?_
      obtain ⟨k121, hf⟩ := pm_if hf
      obtain ⟨v122, e123, hf⟩ := pm_bd hf
      refine pm_callV (as := [.int v113, .int 32, .int p1, .long p2]) (st := []) C X dX8_toWhole_205 lnX8_192 myX8_truncated viX8_truncated ⟨by decide, by decide⟩ rfl rfl k121 (Nat.le_of_ble_eq_true rfl) (Nat.le_refl _) (Nat.le_refl _) (ctX8_truncated e123 ?_)
      show pm_G g 208 [(0, .ref a0), (1, .int p1), (2, .long p2)] [.long v122.1] v122.2 0 0
      cases hf
      exact pm_lret C X dX8_toWhole_208 rfl (Nat.le_refl _) (Nat.le_refl _) q
  have hf := pm_ie hf c112
  by_cases c124 : p1 = 180
  · have hf := pm_it hf c124
    refine pm_tableIn (tgt := 184) C dX8_toWhole_1 (by rw [c124]; decide) (by rw [c124]; decide) (by rw [c124]; rfl) (by decide) ?_
    refine pm_aload_n C dX8_toWhole_184 rfl rfl ?_
    refine pm_iload_n C dX8_toWhole_185 rfl rfl ?_
    obtain ⟨v125, e126, hf⟩ := pm_bd hf
    refine pm_callS (as := [.int p1]) (st := [.ref a0]) C X dX8_toWhole_186 lnX8_27 myX8_operandType stX8_operandType ⟨by decide, by decide⟩ rfl rfl (Nat.le_of_ble_eq_true rfl) (Nat.le_refl _) (Nat.le_refl _) (ctX8_operandType e126 ?_)
    show pm_G g 189 [(0, .ref a0), (1, .int p1), (2, .long p2)] [.int v125, .ref a0] h 0 0
    refine pm_iload_n C dX8_toWhole_189 rfl rfl ?_
    obtain ⟨v127, e128, hf⟩ := pm_bd hf
    refine pm_callS (as := [.int p1]) (st := [.int v125, .ref a0]) C X dX8_toWhole_190 lnX8_189 myX8_resultType stX8_resultType ⟨by decide, by decide⟩ rfl rfl (Nat.le_of_ble_eq_true rfl) (Nat.le_refl _) (Nat.le_refl _) (ctX8_resultType e128 ?_)
    show pm_G g 193 [(0, .ref a0), (1, .int p1), (2, .long p2)] [.int v127, .int v125, .ref a0] h 0 0
    refine pm_if_ne (tgt := 201) C dX8_toWhole_193 (by decide) (fun c129 => ?_) (fun c129 => ?_)
    · have hf := pm_ie hf c129
      refine pm_bipush (v := 64) C dX8_toWhole_201 (by decide) ?_
      refine pm_iload_n C dX8_toWhole_203 rfl rfl ?_
      refine pm_lload_n C dX8_toWhole_204 rfl rfl ?_
      obtain ⟨k130, hf⟩ := pm_if hf
      obtain ⟨v131, e132, hf⟩ := pm_bd hf
      refine pm_callV (as := [.int v125, .int 64, .int p1, .long p2]) (st := []) C X dX8_toWhole_205 lnX8_192 myX8_truncated viX8_truncated ⟨by decide, by decide⟩ rfl rfl k130 (Nat.le_of_ble_eq_true rfl) (Nat.le_refl _) (Nat.le_refl _) (ctX8_truncated e132 ?_)
      show pm_G g 208 [(0, .ref a0), (1, .int p1), (2, .long p2)] [.long v131.1] v131.2 0 0
      cases hf
      exact pm_lret C X dX8_toWhole_208 rfl (Nat.le_refl _) (Nat.le_refl _) q
    · have hf := pm_it hf c129
      refine pm_bipush (v := 32) C dX8_toWhole_196 (by decide) ?_
      refine pm_goto (tgt := 203) C dX8_toWhole_198 (by decide) ?_
      refine pm_iload_n C dX8_toWhole_203 rfl rfl ?_
      refine pm_lload_n C dX8_toWhole_204 rfl rfl ?_
      obtain ⟨k133, hf⟩ := pm_if hf
      obtain ⟨v134, e135, hf⟩ := pm_bd hf
      refine pm_callV (as := [.int v125, .int 32, .int p1, .long p2]) (st := []) C X dX8_toWhole_205 lnX8_192 myX8_truncated viX8_truncated ⟨by decide, by decide⟩ rfl rfl k133 (Nat.le_of_ble_eq_true rfl) (Nat.le_refl _) (Nat.le_refl _) (ctX8_truncated e135 ?_)
      show pm_G g 208 [(0, .ref a0), (1, .int p1), (2, .long p2)] [.long v134.1] v134.2 0 0
      cases hf
      exact pm_lret C X dX8_toWhole_208 rfl (Nat.le_refl _) (Nat.le_refl _) q
  have hf := pm_ie hf c124
  by_cases c136 : p1 = 181
  · have hf := pm_it hf c136
    refine pm_tableIn (tgt := 184) C dX8_toWhole_1 (by rw [c136]; decide) (by rw [c136]; decide) (by rw [c136]; rfl) (by decide) ?_
    refine pm_aload_n C dX8_toWhole_184 rfl rfl ?_
    refine pm_iload_n C dX8_toWhole_185 rfl rfl ?_
    obtain ⟨v137, e138, hf⟩ := pm_bd hf
    refine pm_callS (as := [.int p1]) (st := [.ref a0]) C X dX8_toWhole_186 lnX8_27 myX8_operandType stX8_operandType ⟨by decide, by decide⟩ rfl rfl (Nat.le_of_ble_eq_true rfl) (Nat.le_refl _) (Nat.le_refl _) (ctX8_operandType e138 ?_)
    show pm_G g 189 [(0, .ref a0), (1, .int p1), (2, .long p2)] [.int v137, .ref a0] h 0 0
    refine pm_iload_n C dX8_toWhole_189 rfl rfl ?_
    obtain ⟨v139, e140, hf⟩ := pm_bd hf
    refine pm_callS (as := [.int p1]) (st := [.int v137, .ref a0]) C X dX8_toWhole_190 lnX8_189 myX8_resultType stX8_resultType ⟨by decide, by decide⟩ rfl rfl (Nat.le_of_ble_eq_true rfl) (Nat.le_refl _) (Nat.le_refl _) (ctX8_resultType e140 ?_)
    show pm_G g 193 [(0, .ref a0), (1, .int p1), (2, .long p2)] [.int v139, .int v137, .ref a0] h 0 0
    refine pm_if_ne (tgt := 201) C dX8_toWhole_193 (by decide) (fun c141 => ?_) (fun c141 => ?_)
    · have hf := pm_ie hf c141
      refine pm_bipush (v := 64) C dX8_toWhole_201 (by decide) ?_
      refine pm_iload_n C dX8_toWhole_203 rfl rfl ?_
      refine pm_lload_n C dX8_toWhole_204 rfl rfl ?_
      obtain ⟨k142, hf⟩ := pm_if hf
      obtain ⟨v143, e144, hf⟩ := pm_bd hf
      refine pm_callV (as := [.int v137, .int 64, .int p1, .long p2]) (st := []) C X dX8_toWhole_205 lnX8_192 myX8_truncated viX8_truncated ⟨by decide, by decide⟩ rfl rfl k142 (Nat.le_of_ble_eq_true rfl) (Nat.le_refl _) (Nat.le_refl _) (ctX8_truncated e144 ?_)
      show pm_G g 208 [(0, .ref a0), (1, .int p1), (2, .long p2)] [.long v143.1] v143.2 0 0
      cases hf
      exact pm_lret C X dX8_toWhole_208 rfl (Nat.le_refl _) (Nat.le_refl _) q
    · have hf := pm_it hf c141
      refine pm_bipush (v := 32) C dX8_toWhole_196 (by decide) ?_
      refine pm_goto (tgt := 203) C dX8_toWhole_198 (by decide) ?_
      refine pm_iload_n C dX8_toWhole_203 rfl rfl ?_
      refine pm_lload_n C dX8_toWhole_204 rfl rfl ?_
      obtain ⟨k145, hf⟩ := pm_if hf
      obtain ⟨v146, e147, hf⟩ := pm_bd hf
      refine pm_callV (as := [.int v137, .int 32, .int p1, .long p2]) (st := []) C X dX8_toWhole_205 lnX8_192 myX8_truncated viX8_truncated ⟨by decide, by decide⟩ rfl rfl k145 (Nat.le_of_ble_eq_true rfl) (Nat.le_refl _) (Nat.le_refl _) (ctX8_truncated e147 ?_)
      show pm_G g 208 [(0, .ref a0), (1, .int p1), (2, .long p2)] [.long v146.1] v146.2 0 0
      cases hf
      exact pm_lret C X dX8_toWhole_208 rfl (Nat.le_refl _) (Nat.le_refl _) q
  have hf := pm_ie hf c136
  by_cases c148 : p1 = 182
  · have hf := pm_it hf c148
    refine pm_tableIn (tgt := 184) C dX8_toWhole_1 (by rw [c148]; decide) (by rw [c148]; decide) (by rw [c148]; rfl) (by decide) ?_
    refine pm_aload_n C dX8_toWhole_184 rfl rfl ?_
    refine pm_iload_n C dX8_toWhole_185 rfl rfl ?_
    obtain ⟨v149, e150, hf⟩ := pm_bd hf
    refine pm_callS (as := [.int p1]) (st := [.ref a0]) C X dX8_toWhole_186 lnX8_27 myX8_operandType stX8_operandType ⟨by decide, by decide⟩ rfl rfl (Nat.le_of_ble_eq_true rfl) (Nat.le_refl _) (Nat.le_refl _) (ctX8_operandType e150 ?_)
    show pm_G g 189 [(0, .ref a0), (1, .int p1), (2, .long p2)] [.int v149, .ref a0] h 0 0
    refine pm_iload_n C dX8_toWhole_189 rfl rfl ?_
    obtain ⟨v151, e152, hf⟩ := pm_bd hf
    refine pm_callS (as := [.int p1]) (st := [.int v149, .ref a0]) C X dX8_toWhole_190 lnX8_189 myX8_resultType stX8_resultType ⟨by decide, by decide⟩ rfl rfl (Nat.le_of_ble_eq_true rfl) (Nat.le_refl _) (Nat.le_refl _) (ctX8_resultType e152 ?_)
    show pm_G g 193 [(0, .ref a0), (1, .int p1), (2, .long p2)] [.int v151, .int v149, .ref a0] h 0 0
    refine pm_if_ne (tgt := 201) C dX8_toWhole_193 (by decide) (fun c153 => ?_) (fun c153 => ?_)
    · have hf := pm_ie hf c153
      refine pm_bipush (v := 64) C dX8_toWhole_201 (by decide) ?_
      refine pm_iload_n C dX8_toWhole_203 rfl rfl ?_
      refine pm_lload_n C dX8_toWhole_204 rfl rfl ?_
      obtain ⟨k154, hf⟩ := pm_if hf
      obtain ⟨v155, e156, hf⟩ := pm_bd hf
      refine pm_callV (as := [.int v149, .int 64, .int p1, .long p2]) (st := []) C X dX8_toWhole_205 lnX8_192 myX8_truncated viX8_truncated ⟨by decide, by decide⟩ rfl rfl k154 (Nat.le_of_ble_eq_true rfl) (Nat.le_refl _) (Nat.le_refl _) (ctX8_truncated e156 ?_)
      show pm_G g 208 [(0, .ref a0), (1, .int p1), (2, .long p2)] [.long v155.1] v155.2 0 0
      cases hf
      exact pm_lret C X dX8_toWhole_208 rfl (Nat.le_refl _) (Nat.le_refl _) q
    · have hf := pm_it hf c153
      refine pm_bipush (v := 32) C dX8_toWhole_196 (by decide) ?_
      refine pm_goto (tgt := 203) C dX8_toWhole_198 (by decide) ?_
      refine pm_iload_n C dX8_toWhole_203 rfl rfl ?_
      refine pm_lload_n C dX8_toWhole_204 rfl rfl ?_
      obtain ⟨k157, hf⟩ := pm_if hf
      obtain ⟨v158, e159, hf⟩ := pm_bd hf
      refine pm_callV (as := [.int v149, .int 32, .int p1, .long p2]) (st := []) C X dX8_toWhole_205 lnX8_192 myX8_truncated viX8_truncated ⟨by decide, by decide⟩ rfl rfl k157 (Nat.le_of_ble_eq_true rfl) (Nat.le_refl _) (Nat.le_refl _) (ctX8_truncated e159 ?_)
      show pm_G g 208 [(0, .ref a0), (1, .int p1), (2, .long p2)] [.long v158.1] v158.2 0 0
      cases hf
      exact pm_lret C X dX8_toWhole_208 rfl (Nat.le_refl _) (Nat.le_refl _) q
  have hf := pm_ie hf c148
  by_cases c160 : p1 = 183
  · have hf := pm_it hf c160
    refine pm_tableIn (tgt := 184) C dX8_toWhole_1 (by rw [c160]; decide) (by rw [c160]; decide) (by rw [c160]; rfl) (by decide) ?_
    refine pm_aload_n C dX8_toWhole_184 rfl rfl ?_
    refine pm_iload_n C dX8_toWhole_185 rfl rfl ?_
    obtain ⟨v161, e162, hf⟩ := pm_bd hf
    refine pm_callS (as := [.int p1]) (st := [.ref a0]) C X dX8_toWhole_186 lnX8_27 myX8_operandType stX8_operandType ⟨by decide, by decide⟩ rfl rfl (Nat.le_of_ble_eq_true rfl) (Nat.le_refl _) (Nat.le_refl _) (ctX8_operandType e162 ?_)
    show pm_G g 189 [(0, .ref a0), (1, .int p1), (2, .long p2)] [.int v161, .ref a0] h 0 0
    refine pm_iload_n C dX8_toWhole_189 rfl rfl ?_
    obtain ⟨v163, e164, hf⟩ := pm_bd hf
    refine pm_callS (as := [.int p1]) (st := [.int v161, .ref a0]) C X dX8_toWhole_190 lnX8_189 myX8_resultType stX8_resultType ⟨by decide, by decide⟩ rfl rfl (Nat.le_of_ble_eq_true rfl) (Nat.le_refl _) (Nat.le_refl _) (ctX8_resultType e164 ?_)
    show pm_G g 193 [(0, .ref a0), (1, .int p1), (2, .long p2)] [.int v163, .int v161, .ref a0] h 0 0
    refine pm_if_ne (tgt := 201) C dX8_toWhole_193 (by decide) (fun c165 => ?_) (fun c165 => ?_)
    · have hf := pm_ie hf c165
      refine pm_bipush (v := 64) C dX8_toWhole_201 (by decide) ?_
      refine pm_iload_n C dX8_toWhole_203 rfl rfl ?_
      refine pm_lload_n C dX8_toWhole_204 rfl rfl ?_
      obtain ⟨k166, hf⟩ := pm_if hf
      obtain ⟨v167, e168, hf⟩ := pm_bd hf
      refine pm_callV (as := [.int v161, .int 64, .int p1, .long p2]) (st := []) C X dX8_toWhole_205 lnX8_192 myX8_truncated viX8_truncated ⟨by decide, by decide⟩ rfl rfl k166 (Nat.le_of_ble_eq_true rfl) (Nat.le_refl _) (Nat.le_refl _) (ctX8_truncated e168 ?_)
      show pm_G g 208 [(0, .ref a0), (1, .int p1), (2, .long p2)] [.long v167.1] v167.2 0 0
      cases hf
      exact pm_lret C X dX8_toWhole_208 rfl (Nat.le_refl _) (Nat.le_refl _) q
    · have hf := pm_it hf c165
      refine pm_bipush (v := 32) C dX8_toWhole_196 (by decide) ?_
      refine pm_goto (tgt := 203) C dX8_toWhole_198 (by decide) ?_
      refine pm_iload_n C dX8_toWhole_203 rfl rfl ?_
      refine pm_lload_n C dX8_toWhole_204 rfl rfl ?_
      obtain ⟨k169, hf⟩ := pm_if hf
      obtain ⟨v170, e171, hf⟩ := pm_bd hf
      refine pm_callV (as := [.int v161, .int 32, .int p1, .long p2]) (st := []) C X dX8_toWhole_205 lnX8_192 myX8_truncated viX8_truncated ⟨by decide, by decide⟩ rfl rfl k169 (Nat.le_of_ble_eq_true rfl) (Nat.le_refl _) (Nat.le_refl _) (ctX8_truncated e171 ?_)
      show pm_G g 208 [(0, .ref a0), (1, .int p1), (2, .long p2)] [.long v170.1] v170.2 0 0
      cases hf
      exact pm_lret C X dX8_toWhole_208 rfl (Nat.le_refl _) (Nat.le_refl _) q
  have hf := pm_ie hf c160
  by_cases c172 : p1 = 184
  · have hf := pm_it hf c172
    refine pm_tableIn (tgt := 184) C dX8_toWhole_1 (by rw [c172]; decide) (by rw [c172]; decide) (by rw [c172]; rfl) (by decide) ?_
    refine pm_aload_n C dX8_toWhole_184 rfl rfl ?_
    refine pm_iload_n C dX8_toWhole_185 rfl rfl ?_
    obtain ⟨v173, e174, hf⟩ := pm_bd hf
    refine pm_callS (as := [.int p1]) (st := [.ref a0]) C X dX8_toWhole_186 lnX8_27 myX8_operandType stX8_operandType ⟨by decide, by decide⟩ rfl rfl (Nat.le_of_ble_eq_true rfl) (Nat.le_refl _) (Nat.le_refl _) (ctX8_operandType e174 ?_)
    show pm_G g 189 [(0, .ref a0), (1, .int p1), (2, .long p2)] [.int v173, .ref a0] h 0 0
    refine pm_iload_n C dX8_toWhole_189 rfl rfl ?_
    obtain ⟨v175, e176, hf⟩ := pm_bd hf
    refine pm_callS (as := [.int p1]) (st := [.int v173, .ref a0]) C X dX8_toWhole_190 lnX8_189 myX8_resultType stX8_resultType ⟨by decide, by decide⟩ rfl rfl (Nat.le_of_ble_eq_true rfl) (Nat.le_refl _) (Nat.le_refl _) (ctX8_resultType e176 ?_)
    show pm_G g 193 [(0, .ref a0), (1, .int p1), (2, .long p2)] [.int v175, .int v173, .ref a0] h 0 0
    refine pm_if_ne (tgt := 201) C dX8_toWhole_193 (by decide) (fun c177 => ?_) (fun c177 => ?_)
    · have hf := pm_ie hf c177
      refine pm_bipush (v := 64) C dX8_toWhole_201 (by decide) ?_
      refine pm_iload_n C dX8_toWhole_203 rfl rfl ?_
      refine pm_lload_n C dX8_toWhole_204 rfl rfl ?_
      obtain ⟨k178, hf⟩ := pm_if hf
      obtain ⟨v179, e180, hf⟩ := pm_bd hf
      refine pm_callV (as := [.int v173, .int 64, .int p1, .long p2]) (st := []) C X dX8_toWhole_205 lnX8_192 myX8_truncated viX8_truncated ⟨by decide, by decide⟩ rfl rfl k178 (Nat.le_of_ble_eq_true rfl) (Nat.le_refl _) (Nat.le_refl _) (ctX8_truncated e180 ?_)
      show pm_G g 208 [(0, .ref a0), (1, .int p1), (2, .long p2)] [.long v179.1] v179.2 0 0
      cases hf
      exact pm_lret C X dX8_toWhole_208 rfl (Nat.le_refl _) (Nat.le_refl _) q
    · have hf := pm_it hf c177
      refine pm_bipush (v := 32) C dX8_toWhole_196 (by decide) ?_
      refine pm_goto (tgt := 203) C dX8_toWhole_198 (by decide) ?_
      refine pm_iload_n C dX8_toWhole_203 rfl rfl ?_
      refine pm_lload_n C dX8_toWhole_204 rfl rfl ?_
      obtain ⟨k181, hf⟩ := pm_if hf
      obtain ⟨v182, e183, hf⟩ := pm_bd hf
      refine pm_callV (as := [.int v173, .int 32, .int p1, .long p2]) (st := []) C X dX8_toWhole_205 lnX8_192 myX8_truncated viX8_truncated ⟨by decide, by decide⟩ rfl rfl k181 (Nat.le_of_ble_eq_true rfl) (Nat.le_refl _) (Nat.le_refl _) (ctX8_truncated e183 ?_)
      show pm_G g 208 [(0, .ref a0), (1, .int p1), (2, .long p2)] [.long v182.1] v182.2 0 0
      cases hf
      exact pm_lret C X dX8_toWhole_208 rfl (Nat.le_refl _) (Nat.le_refl _) q
  have hf := pm_ie hf c172
  by_cases c184 : p1 = 185
  · have hf := pm_it hf c184
    refine pm_tableIn (tgt := 184) C dX8_toWhole_1 (by rw [c184]; decide) (by rw [c184]; decide) (by rw [c184]; rfl) (by decide) ?_
    refine pm_aload_n C dX8_toWhole_184 rfl rfl ?_
    refine pm_iload_n C dX8_toWhole_185 rfl rfl ?_
    obtain ⟨v185, e186, hf⟩ := pm_bd hf
    refine pm_callS (as := [.int p1]) (st := [.ref a0]) C X dX8_toWhole_186 lnX8_27 myX8_operandType stX8_operandType ⟨by decide, by decide⟩ rfl rfl (Nat.le_of_ble_eq_true rfl) (Nat.le_refl _) (Nat.le_refl _) (ctX8_operandType e186 ?_)
    show pm_G g 189 [(0, .ref a0), (1, .int p1), (2, .long p2)] [.int v185, .ref a0] h 0 0
    refine pm_iload_n C dX8_toWhole_189 rfl rfl ?_
    obtain ⟨v187, e188, hf⟩ := pm_bd hf
    refine pm_callS (as := [.int p1]) (st := [.int v185, .ref a0]) C X dX8_toWhole_190 lnX8_189 myX8_resultType stX8_resultType ⟨by decide, by decide⟩ rfl rfl (Nat.le_of_ble_eq_true rfl) (Nat.le_refl _) (Nat.le_refl _) (ctX8_resultType e188 ?_)
    show pm_G g 193 [(0, .ref a0), (1, .int p1), (2, .long p2)] [.int v187, .int v185, .ref a0] h 0 0
    refine pm_if_ne (tgt := 201) C dX8_toWhole_193 (by decide) (fun c189 => ?_) (fun c189 => ?_)
    · have hf := pm_ie hf c189
      refine pm_bipush (v := 64) C dX8_toWhole_201 (by decide) ?_
      refine pm_iload_n C dX8_toWhole_203 rfl rfl ?_
      refine pm_lload_n C dX8_toWhole_204 rfl rfl ?_
      obtain ⟨k190, hf⟩ := pm_if hf
      obtain ⟨v191, e192, hf⟩ := pm_bd hf
      refine pm_callV (as := [.int v185, .int 64, .int p1, .long p2]) (st := []) C X dX8_toWhole_205 lnX8_192 myX8_truncated viX8_truncated ⟨by decide, by decide⟩ rfl rfl k190 (Nat.le_of_ble_eq_true rfl) (Nat.le_refl _) (Nat.le_refl _) (ctX8_truncated e192 ?_)
      show pm_G g 208 [(0, .ref a0), (1, .int p1), (2, .long p2)] [.long v191.1] v191.2 0 0
      cases hf
      exact pm_lret C X dX8_toWhole_208 rfl (Nat.le_refl _) (Nat.le_refl _) q
    · have hf := pm_it hf c189
      refine pm_bipush (v := 32) C dX8_toWhole_196 (by decide) ?_
      refine pm_goto (tgt := 203) C dX8_toWhole_198 (by decide) ?_
      refine pm_iload_n C dX8_toWhole_203 rfl rfl ?_
      refine pm_lload_n C dX8_toWhole_204 rfl rfl ?_
      obtain ⟨k193, hf⟩ := pm_if hf
      obtain ⟨v194, e195, hf⟩ := pm_bd hf
      refine pm_callV (as := [.int v185, .int 32, .int p1, .long p2]) (st := []) C X dX8_toWhole_205 lnX8_192 myX8_truncated viX8_truncated ⟨by decide, by decide⟩ rfl rfl k193 (Nat.le_of_ble_eq_true rfl) (Nat.le_refl _) (Nat.le_refl _) (ctX8_truncated e195 ?_)
      show pm_G g 208 [(0, .ref a0), (1, .int p1), (2, .long p2)] [.long v194.1] v194.2 0 0
      cases hf
      exact pm_lret C X dX8_toWhole_208 rfl (Nat.le_refl _) (Nat.le_refl _) q
  have hf := pm_ie hf c184
  by_cases c196 : p1 = 186
  · have hf := pm_it hf c196
    refine pm_tableIn (tgt := 184) C dX8_toWhole_1 (by rw [c196]; decide) (by rw [c196]; decide) (by rw [c196]; rfl) (by decide) ?_
    refine pm_aload_n C dX8_toWhole_184 rfl rfl ?_
    refine pm_iload_n C dX8_toWhole_185 rfl rfl ?_
    obtain ⟨v197, e198, hf⟩ := pm_bd hf
    refine pm_callS (as := [.int p1]) (st := [.ref a0]) C X dX8_toWhole_186 lnX8_27 myX8_operandType stX8_operandType ⟨by decide, by decide⟩ rfl rfl (Nat.le_of_ble_eq_true rfl) (Nat.le_refl _) (Nat.le_refl _) (ctX8_operandType e198 ?_)
    show pm_G g 189 [(0, .ref a0), (1, .int p1), (2, .long p2)] [.int v197, .ref a0] h 0 0
    refine pm_iload_n C dX8_toWhole_189 rfl rfl ?_
    obtain ⟨v199, e200, hf⟩ := pm_bd hf
    refine pm_callS (as := [.int p1]) (st := [.int v197, .ref a0]) C X dX8_toWhole_190 lnX8_189 myX8_resultType stX8_resultType ⟨by decide, by decide⟩ rfl rfl (Nat.le_of_ble_eq_true rfl) (Nat.le_refl _) (Nat.le_refl _) (ctX8_resultType e200 ?_)
    show pm_G g 193 [(0, .ref a0), (1, .int p1), (2, .long p2)] [.int v199, .int v197, .ref a0] h 0 0
    refine pm_if_ne (tgt := 201) C dX8_toWhole_193 (by decide) (fun c201 => ?_) (fun c201 => ?_)
    · have hf := pm_ie hf c201
      refine pm_bipush (v := 64) C dX8_toWhole_201 (by decide) ?_
      refine pm_iload_n C dX8_toWhole_203 rfl rfl ?_
      refine pm_lload_n C dX8_toWhole_204 rfl rfl ?_
      obtain ⟨k202, hf⟩ := pm_if hf
      obtain ⟨v203, e204, hf⟩ := pm_bd hf
      refine pm_callV (as := [.int v197, .int 64, .int p1, .long p2]) (st := []) C X dX8_toWhole_205 lnX8_192 myX8_truncated viX8_truncated ⟨by decide, by decide⟩ rfl rfl k202 (Nat.le_of_ble_eq_true rfl) (Nat.le_refl _) (Nat.le_refl _) (ctX8_truncated e204 ?_)
      show pm_G g 208 [(0, .ref a0), (1, .int p1), (2, .long p2)] [.long v203.1] v203.2 0 0
      cases hf
      exact pm_lret C X dX8_toWhole_208 rfl (Nat.le_refl _) (Nat.le_refl _) q
    · have hf := pm_it hf c201
      refine pm_bipush (v := 32) C dX8_toWhole_196 (by decide) ?_
      refine pm_goto (tgt := 203) C dX8_toWhole_198 (by decide) ?_
      refine pm_iload_n C dX8_toWhole_203 rfl rfl ?_
      refine pm_lload_n C dX8_toWhole_204 rfl rfl ?_
      obtain ⟨k205, hf⟩ := pm_if hf
      obtain ⟨v206, e207, hf⟩ := pm_bd hf
      refine pm_callV (as := [.int v197, .int 32, .int p1, .long p2]) (st := []) C X dX8_toWhole_205 lnX8_192 myX8_truncated viX8_truncated ⟨by decide, by decide⟩ rfl rfl k205 (Nat.le_of_ble_eq_true rfl) (Nat.le_refl _) (Nat.le_refl _) (ctX8_truncated e207 ?_)
      show pm_G g 208 [(0, .ref a0), (1, .int p1), (2, .long p2)] [.long v206.1] v206.2 0 0
      cases hf
      exact pm_lret C X dX8_toWhole_208 rfl (Nat.le_refl _) (Nat.le_refl _) q
  have hf := pm_ie hf c196
  by_cases c208 : p1 = 187
  · have hf := pm_it hf c208
    refine pm_tableIn (tgt := 184) C dX8_toWhole_1 (by rw [c208]; decide) (by rw [c208]; decide) (by rw [c208]; rfl) (by decide) ?_
    refine pm_aload_n C dX8_toWhole_184 rfl rfl ?_
    refine pm_iload_n C dX8_toWhole_185 rfl rfl ?_
    obtain ⟨v209, e210, hf⟩ := pm_bd hf
    refine pm_callS (as := [.int p1]) (st := [.ref a0]) C X dX8_toWhole_186 lnX8_27 myX8_operandType stX8_operandType ⟨by decide, by decide⟩ rfl rfl (Nat.le_of_ble_eq_true rfl) (Nat.le_refl _) (Nat.le_refl _) (ctX8_operandType e210 ?_)
    show pm_G g 189 [(0, .ref a0), (1, .int p1), (2, .long p2)] [.int v209, .ref a0] h 0 0
    refine pm_iload_n C dX8_toWhole_189 rfl rfl ?_
    obtain ⟨v211, e212, hf⟩ := pm_bd hf
    refine pm_callS (as := [.int p1]) (st := [.int v209, .ref a0]) C X dX8_toWhole_190 lnX8_189 myX8_resultType stX8_resultType ⟨by decide, by decide⟩ rfl rfl (Nat.le_of_ble_eq_true rfl) (Nat.le_refl _) (Nat.le_refl _) (ctX8_resultType e212 ?_)
    show pm_G g 193 [(0, .ref a0), (1, .int p1), (2, .long p2)] [.int v211, .int v209, .ref a0] h 0 0
    refine pm_if_ne (tgt := 201) C dX8_toWhole_193 (by decide) (fun c213 => ?_) (fun c213 => ?_)
    · have hf := pm_ie hf c213
      refine pm_bipush (v := 64) C dX8_toWhole_201 (by decide) ?_
      refine pm_iload_n C dX8_toWhole_203 rfl rfl ?_
      refine pm_lload_n C dX8_toWhole_204 rfl rfl ?_
      obtain ⟨k214, hf⟩ := pm_if hf
      obtain ⟨v215, e216, hf⟩ := pm_bd hf
      refine pm_callV (as := [.int v209, .int 64, .int p1, .long p2]) (st := []) C X dX8_toWhole_205 lnX8_192 myX8_truncated viX8_truncated ⟨by decide, by decide⟩ rfl rfl k214 (Nat.le_of_ble_eq_true rfl) (Nat.le_refl _) (Nat.le_refl _) (ctX8_truncated e216 ?_)
      show pm_G g 208 [(0, .ref a0), (1, .int p1), (2, .long p2)] [.long v215.1] v215.2 0 0
      cases hf
      exact pm_lret C X dX8_toWhole_208 rfl (Nat.le_refl _) (Nat.le_refl _) q
    · have hf := pm_it hf c213
      refine pm_bipush (v := 32) C dX8_toWhole_196 (by decide) ?_
      refine pm_goto (tgt := 203) C dX8_toWhole_198 (by decide) ?_
      refine pm_iload_n C dX8_toWhole_203 rfl rfl ?_
      refine pm_lload_n C dX8_toWhole_204 rfl rfl ?_
      obtain ⟨k217, hf⟩ := pm_if hf
      obtain ⟨v218, e219, hf⟩ := pm_bd hf
      refine pm_callV (as := [.int v209, .int 32, .int p1, .long p2]) (st := []) C X dX8_toWhole_205 lnX8_192 myX8_truncated viX8_truncated ⟨by decide, by decide⟩ rfl rfl k217 (Nat.le_of_ble_eq_true rfl) (Nat.le_refl _) (Nat.le_refl _) (ctX8_truncated e219 ?_)
      show pm_G g 208 [(0, .ref a0), (1, .int p1), (2, .long p2)] [.long v218.1] v218.2 0 0
      cases hf
      exact pm_lret C X dX8_toWhole_208 rfl (Nat.le_refl _) (Nat.le_refl _) q
  have hf := pm_ie hf c208
  by_cases c220 : p1 = 188
  · have hf := pm_it hf c220
    refine pm_tableIn (tgt := 184) C dX8_toWhole_1 (by rw [c220]; decide) (by rw [c220]; decide) (by rw [c220]; rfl) (by decide) ?_
    refine pm_aload_n C dX8_toWhole_184 rfl rfl ?_
    refine pm_iload_n C dX8_toWhole_185 rfl rfl ?_
    obtain ⟨v221, e222, hf⟩ := pm_bd hf
    refine pm_callS (as := [.int p1]) (st := [.ref a0]) C X dX8_toWhole_186 lnX8_27 myX8_operandType stX8_operandType ⟨by decide, by decide⟩ rfl rfl (Nat.le_of_ble_eq_true rfl) (Nat.le_refl _) (Nat.le_refl _) (ctX8_operandType e222 ?_)
    show pm_G g 189 [(0, .ref a0), (1, .int p1), (2, .long p2)] [.int v221, .ref a0] h 0 0
    refine pm_iload_n C dX8_toWhole_189 rfl rfl ?_
    obtain ⟨v223, e224, hf⟩ := pm_bd hf
    refine pm_callS (as := [.int p1]) (st := [.int v221, .ref a0]) C X dX8_toWhole_190 lnX8_189 myX8_resultType stX8_resultType ⟨by decide, by decide⟩ rfl rfl (Nat.le_of_ble_eq_true rfl) (Nat.le_refl _) (Nat.le_refl _) (ctX8_resultType e224 ?_)
    show pm_G g 193 [(0, .ref a0), (1, .int p1), (2, .long p2)] [.int v223, .int v221, .ref a0] h 0 0
    refine pm_if_ne (tgt := 201) C dX8_toWhole_193 (by decide) (fun c225 => ?_) (fun c225 => ?_)
    · have hf := pm_ie hf c225
      refine pm_bipush (v := 64) C dX8_toWhole_201 (by decide) ?_
      refine pm_iload_n C dX8_toWhole_203 rfl rfl ?_
      refine pm_lload_n C dX8_toWhole_204 rfl rfl ?_
      obtain ⟨k226, hf⟩ := pm_if hf
      obtain ⟨v227, e228, hf⟩ := pm_bd hf
      refine pm_callV (as := [.int v221, .int 64, .int p1, .long p2]) (st := []) C X dX8_toWhole_205 lnX8_192 myX8_truncated viX8_truncated ⟨by decide, by decide⟩ rfl rfl k226 (Nat.le_of_ble_eq_true rfl) (Nat.le_refl _) (Nat.le_refl _) (ctX8_truncated e228 ?_)
      show pm_G g 208 [(0, .ref a0), (1, .int p1), (2, .long p2)] [.long v227.1] v227.2 0 0
      cases hf
      exact pm_lret C X dX8_toWhole_208 rfl (Nat.le_refl _) (Nat.le_refl _) q
    · have hf := pm_it hf c225
      refine pm_bipush (v := 32) C dX8_toWhole_196 (by decide) ?_
      refine pm_goto (tgt := 203) C dX8_toWhole_198 (by decide) ?_
      refine pm_iload_n C dX8_toWhole_203 rfl rfl ?_
      refine pm_lload_n C dX8_toWhole_204 rfl rfl ?_
      obtain ⟨k229, hf⟩ := pm_if hf
      obtain ⟨v230, e231, hf⟩ := pm_bd hf
      refine pm_callV (as := [.int v221, .int 32, .int p1, .long p2]) (st := []) C X dX8_toWhole_205 lnX8_192 myX8_truncated viX8_truncated ⟨by decide, by decide⟩ rfl rfl k229 (Nat.le_of_ble_eq_true rfl) (Nat.le_refl _) (Nat.le_refl _) (ctX8_truncated e231 ?_)
      show pm_G g 208 [(0, .ref a0), (1, .int p1), (2, .long p2)] [.long v230.1] v230.2 0 0
      cases hf
      exact pm_lret C X dX8_toWhole_208 rfl (Nat.le_refl _) (Nat.le_refl _) q
  have hf := pm_ie hf c220
  by_cases c232 : p1 = 189
  · have hf := pm_it hf c232
    refine pm_tableIn (tgt := 184) C dX8_toWhole_1 (by rw [c232]; decide) (by rw [c232]; decide) (by rw [c232]; rfl) (by decide) ?_
    refine pm_aload_n C dX8_toWhole_184 rfl rfl ?_
    refine pm_iload_n C dX8_toWhole_185 rfl rfl ?_
    obtain ⟨v233, e234, hf⟩ := pm_bd hf
    refine pm_callS (as := [.int p1]) (st := [.ref a0]) C X dX8_toWhole_186 lnX8_27 myX8_operandType stX8_operandType ⟨by decide, by decide⟩ rfl rfl (Nat.le_of_ble_eq_true rfl) (Nat.le_refl _) (Nat.le_refl _) (ctX8_operandType e234 ?_)
    show pm_G g 189 [(0, .ref a0), (1, .int p1), (2, .long p2)] [.int v233, .ref a0] h 0 0
    refine pm_iload_n C dX8_toWhole_189 rfl rfl ?_
    obtain ⟨v235, e236, hf⟩ := pm_bd hf
    refine pm_callS (as := [.int p1]) (st := [.int v233, .ref a0]) C X dX8_toWhole_190 lnX8_189 myX8_resultType stX8_resultType ⟨by decide, by decide⟩ rfl rfl (Nat.le_of_ble_eq_true rfl) (Nat.le_refl _) (Nat.le_refl _) (ctX8_resultType e236 ?_)
    show pm_G g 193 [(0, .ref a0), (1, .int p1), (2, .long p2)] [.int v235, .int v233, .ref a0] h 0 0
    refine pm_if_ne (tgt := 201) C dX8_toWhole_193 (by decide) (fun c237 => ?_) (fun c237 => ?_)
    · have hf := pm_ie hf c237
      refine pm_bipush (v := 64) C dX8_toWhole_201 (by decide) ?_
      refine pm_iload_n C dX8_toWhole_203 rfl rfl ?_
      refine pm_lload_n C dX8_toWhole_204 rfl rfl ?_
      obtain ⟨k238, hf⟩ := pm_if hf
      obtain ⟨v239, e240, hf⟩ := pm_bd hf
      refine pm_callV (as := [.int v233, .int 64, .int p1, .long p2]) (st := []) C X dX8_toWhole_205 lnX8_192 myX8_truncated viX8_truncated ⟨by decide, by decide⟩ rfl rfl k238 (Nat.le_of_ble_eq_true rfl) (Nat.le_refl _) (Nat.le_refl _) (ctX8_truncated e240 ?_)
      show pm_G g 208 [(0, .ref a0), (1, .int p1), (2, .long p2)] [.long v239.1] v239.2 0 0
      cases hf
      exact pm_lret C X dX8_toWhole_208 rfl (Nat.le_refl _) (Nat.le_refl _) q
    · have hf := pm_it hf c237
      refine pm_bipush (v := 32) C dX8_toWhole_196 (by decide) ?_
      refine pm_goto (tgt := 203) C dX8_toWhole_198 (by decide) ?_
      refine pm_iload_n C dX8_toWhole_203 rfl rfl ?_
      refine pm_lload_n C dX8_toWhole_204 rfl rfl ?_
      obtain ⟨k241, hf⟩ := pm_if hf
      obtain ⟨v242, e243, hf⟩ := pm_bd hf
      refine pm_callV (as := [.int v233, .int 32, .int p1, .long p2]) (st := []) C X dX8_toWhole_205 lnX8_192 myX8_truncated viX8_truncated ⟨by decide, by decide⟩ rfl rfl k241 (Nat.le_of_ble_eq_true rfl) (Nat.le_refl _) (Nat.le_refl _) (ctX8_truncated e243 ?_)
      show pm_G g 208 [(0, .ref a0), (1, .int p1), (2, .long p2)] [.long v242.1] v242.2 0 0
      cases hf
      exact pm_lret C X dX8_toWhole_208 rfl (Nat.le_refl _) (Nat.le_refl _) q
  have hf := pm_ie hf c232
  by_cases c244 : p1 = 190
  · have hf := pm_it hf c244
    refine pm_tableIn (tgt := 184) C dX8_toWhole_1 (by rw [c244]; decide) (by rw [c244]; decide) (by rw [c244]; rfl) (by decide) ?_
    refine pm_aload_n C dX8_toWhole_184 rfl rfl ?_
    refine pm_iload_n C dX8_toWhole_185 rfl rfl ?_
    obtain ⟨v245, e246, hf⟩ := pm_bd hf
    refine pm_callS (as := [.int p1]) (st := [.ref a0]) C X dX8_toWhole_186 lnX8_27 myX8_operandType stX8_operandType ⟨by decide, by decide⟩ rfl rfl (Nat.le_of_ble_eq_true rfl) (Nat.le_refl _) (Nat.le_refl _) (ctX8_operandType e246 ?_)
    show pm_G g 189 [(0, .ref a0), (1, .int p1), (2, .long p2)] [.int v245, .ref a0] h 0 0
    refine pm_iload_n C dX8_toWhole_189 rfl rfl ?_
    obtain ⟨v247, e248, hf⟩ := pm_bd hf
    refine pm_callS (as := [.int p1]) (st := [.int v245, .ref a0]) C X dX8_toWhole_190 lnX8_189 myX8_resultType stX8_resultType ⟨by decide, by decide⟩ rfl rfl (Nat.le_of_ble_eq_true rfl) (Nat.le_refl _) (Nat.le_refl _) (ctX8_resultType e248 ?_)
    show pm_G g 193 [(0, .ref a0), (1, .int p1), (2, .long p2)] [.int v247, .int v245, .ref a0] h 0 0
    refine pm_if_ne (tgt := 201) C dX8_toWhole_193 (by decide) (fun c249 => ?_) (fun c249 => ?_)
    · have hf := pm_ie hf c249
      refine pm_bipush (v := 64) C dX8_toWhole_201 (by decide) ?_
      refine pm_iload_n C dX8_toWhole_203 rfl rfl ?_
      refine pm_lload_n C dX8_toWhole_204 rfl rfl ?_
      obtain ⟨k250, hf⟩ := pm_if hf
      obtain ⟨v251, e252, hf⟩ := pm_bd hf
      refine pm_callV (as := [.int v245, .int 64, .int p1, .long p2]) (st := []) C X dX8_toWhole_205 lnX8_192 myX8_truncated viX8_truncated ⟨by decide, by decide⟩ rfl rfl k250 (Nat.le_of_ble_eq_true rfl) (Nat.le_refl _) (Nat.le_refl _) (ctX8_truncated e252 ?_)
      show pm_G g 208 [(0, .ref a0), (1, .int p1), (2, .long p2)] [.long v251.1] v251.2 0 0
      cases hf
      exact pm_lret C X dX8_toWhole_208 rfl (Nat.le_refl _) (Nat.le_refl _) q
    · have hf := pm_it hf c249
      refine pm_bipush (v := 32) C dX8_toWhole_196 (by decide) ?_
      refine pm_goto (tgt := 203) C dX8_toWhole_198 (by decide) ?_
      refine pm_iload_n C dX8_toWhole_203 rfl rfl ?_
      refine pm_lload_n C dX8_toWhole_204 rfl rfl ?_
      obtain ⟨k253, hf⟩ := pm_if hf
      obtain ⟨v254, e255, hf⟩ := pm_bd hf
      refine pm_callV (as := [.int v245, .int 32, .int p1, .long p2]) (st := []) C X dX8_toWhole_205 lnX8_192 myX8_truncated viX8_truncated ⟨by decide, by decide⟩ rfl rfl k253 (Nat.le_of_ble_eq_true rfl) (Nat.le_refl _) (Nat.le_refl _) (ctX8_truncated e255 ?_)
      show pm_G g 208 [(0, .ref a0), (1, .int p1), (2, .long p2)] [.long v254.1] v254.2 0 0
      cases hf
      exact pm_lret C X dX8_toWhole_208 rfl (Nat.le_refl _) (Nat.le_refl _) q
  have hf := pm_ie hf c244
  by_cases c256 : p1 = 191
  · have hf := pm_it hf c256
    refine pm_tableIn (tgt := 184) C dX8_toWhole_1 (by rw [c256]; decide) (by rw [c256]; decide) (by rw [c256]; rfl) (by decide) ?_
    refine pm_aload_n C dX8_toWhole_184 rfl rfl ?_
    refine pm_iload_n C dX8_toWhole_185 rfl rfl ?_
    obtain ⟨v257, e258, hf⟩ := pm_bd hf
    refine pm_callS (as := [.int p1]) (st := [.ref a0]) C X dX8_toWhole_186 lnX8_27 myX8_operandType stX8_operandType ⟨by decide, by decide⟩ rfl rfl (Nat.le_of_ble_eq_true rfl) (Nat.le_refl _) (Nat.le_refl _) (ctX8_operandType e258 ?_)
    show pm_G g 189 [(0, .ref a0), (1, .int p1), (2, .long p2)] [.int v257, .ref a0] h 0 0
    refine pm_iload_n C dX8_toWhole_189 rfl rfl ?_
    obtain ⟨v259, e260, hf⟩ := pm_bd hf
    refine pm_callS (as := [.int p1]) (st := [.int v257, .ref a0]) C X dX8_toWhole_190 lnX8_189 myX8_resultType stX8_resultType ⟨by decide, by decide⟩ rfl rfl (Nat.le_of_ble_eq_true rfl) (Nat.le_refl _) (Nat.le_refl _) (ctX8_resultType e260 ?_)
    show pm_G g 193 [(0, .ref a0), (1, .int p1), (2, .long p2)] [.int v259, .int v257, .ref a0] h 0 0
    refine pm_if_ne (tgt := 201) C dX8_toWhole_193 (by decide) (fun c261 => ?_) (fun c261 => ?_)
    · have hf := pm_ie hf c261
      refine pm_bipush (v := 64) C dX8_toWhole_201 (by decide) ?_
      refine pm_iload_n C dX8_toWhole_203 rfl rfl ?_
      refine pm_lload_n C dX8_toWhole_204 rfl rfl ?_
      obtain ⟨k262, hf⟩ := pm_if hf
      obtain ⟨v263, e264, hf⟩ := pm_bd hf
      refine pm_callV (as := [.int v257, .int 64, .int p1, .long p2]) (st := []) C X dX8_toWhole_205 lnX8_192 myX8_truncated viX8_truncated ⟨by decide, by decide⟩ rfl rfl k262 (Nat.le_of_ble_eq_true rfl) (Nat.le_refl _) (Nat.le_refl _) (ctX8_truncated e264 ?_)
      show pm_G g 208 [(0, .ref a0), (1, .int p1), (2, .long p2)] [.long v263.1] v263.2 0 0
      cases hf
      exact pm_lret C X dX8_toWhole_208 rfl (Nat.le_refl _) (Nat.le_refl _) q
    · have hf := pm_it hf c261
      refine pm_bipush (v := 32) C dX8_toWhole_196 (by decide) ?_
      refine pm_goto (tgt := 203) C dX8_toWhole_198 (by decide) ?_
      refine pm_iload_n C dX8_toWhole_203 rfl rfl ?_
      refine pm_lload_n C dX8_toWhole_204 rfl rfl ?_
      obtain ⟨k265, hf⟩ := pm_if hf
      obtain ⟨v266, e267, hf⟩ := pm_bd hf
      refine pm_callV (as := [.int v257, .int 32, .int p1, .long p2]) (st := []) C X dX8_toWhole_205 lnX8_192 myX8_truncated viX8_truncated ⟨by decide, by decide⟩ rfl rfl k265 (Nat.le_of_ble_eq_true rfl) (Nat.le_refl _) (Nat.le_refl _) (ctX8_truncated e267 ?_)
      show pm_G g 208 [(0, .ref a0), (1, .int p1), (2, .long p2)] [.long v266.1] v266.2 0 0
      cases hf
      exact pm_lret C X dX8_toWhole_208 rfl (Nat.le_refl _) (Nat.le_refl _) q
  have hf := pm_ie hf c256
  by_cases c268 : p1 = 192
  · have hf := pm_it hf c268
    refine pm_tableIn (tgt := 152) C dX8_toWhole_1 (by rw [c268]; decide) (by rw [c268]; decide) (by rw [c268]; rfl) (by decide) ?_
    refine pm_lload_n C dX8_toWhole_152 rfl rfl ?_
    refine pm_l2i C dX8_toWhole_153 ?_
    refine pm_i2b C dX8_toWhole_154 ?_
    refine pm_i2l C dX8_toWhole_155 ?_
    refine pm_ldc2 C dX8_toWhole_156 cnX8_56 ?_
    refine pm_land C dX8_toWhole_159 ?_
    cases hf
    exact pm_lret C X dX8_toWhole_160 rfl (Nat.le_refl _) (Nat.le_refl _) q
  have hf := pm_ie hf c268
  by_cases c269 : p1 = 193
  · have hf := pm_it hf c269
    refine pm_tableIn (tgt := 161) C dX8_toWhole_1 (by rw [c269]; decide) (by rw [c269]; decide) (by rw [c269]; rfl) (by decide) ?_
    refine pm_lload_n C dX8_toWhole_161 rfl rfl ?_
    refine pm_l2i C dX8_toWhole_162 ?_
    refine pm_i2s C dX8_toWhole_163 ?_
    refine pm_i2l C dX8_toWhole_164 ?_
    refine pm_ldc2 C dX8_toWhole_165 cnX8_56 ?_
    refine pm_land C dX8_toWhole_168 ?_
    cases hf
    exact pm_lret C X dX8_toWhole_169 rfl (Nat.le_refl _) (Nat.le_refl _) q
  have hf := pm_ie hf c269
  by_cases c270 : p1 = 194
  · have hf := pm_it hf c270
    refine pm_tableIn (tgt := 170) C dX8_toWhole_1 (by rw [c270]; decide) (by rw [c270]; decide) (by rw [c270]; rfl) (by decide) ?_
    refine pm_lload_n C dX8_toWhole_170 rfl rfl ?_
    refine pm_l2i C dX8_toWhole_171 ?_
    refine pm_i2b C dX8_toWhole_172 ?_
    refine pm_i2l C dX8_toWhole_173 ?_
    cases hf
    exact pm_lret C X dX8_toWhole_174 rfl (Nat.le_refl _) (Nat.le_refl _) q
  have hf := pm_ie hf c270
  by_cases c271 : p1 = 195
  · have hf := pm_it hf c271
    refine pm_tableIn (tgt := 175) C dX8_toWhole_1 (by rw [c271]; decide) (by rw [c271]; decide) (by rw [c271]; rfl) (by decide) ?_
    refine pm_lload_n C dX8_toWhole_175 rfl rfl ?_
    refine pm_l2i C dX8_toWhole_176 ?_
    refine pm_i2s C dX8_toWhole_177 ?_
    refine pm_i2l C dX8_toWhole_178 ?_
    cases hf
    exact pm_lret C X dX8_toWhole_179 rfl (Nat.le_refl _) (Nat.le_refl _) q
  have hf := pm_ie hf c271
  by_cases c272 : p1 = 196
  · have hf := pm_it hf c272
    refine pm_tableIn (tgt := 180) C dX8_toWhole_1 (by rw [c272]; decide) (by rw [c272]; decide) (by rw [c272]; rfl) (by decide) ?_
    refine pm_lload_n C dX8_toWhole_180 rfl rfl ?_
    refine pm_l2i C dX8_toWhole_181 ?_
    refine pm_i2l C dX8_toWhole_182 ?_
    cases hf
    exact pm_lret C X dX8_toWhole_183 rfl (Nat.le_refl _) (Nat.le_refl _) q
  have hf := pm_ie hf c272
  have nc1 := lv_neT c1 (by decide : (167 : Int32).toInt = 167)
  have nc2 := lv_neT c2 (by decide : (168 : Int32).toInt = 168)
  have nc14 := lv_neT c14 (by decide : (169 : Int32).toInt = 169)
  have nc26 := lv_neT c26 (by decide : (170 : Int32).toInt = 170)
  have nc38 := lv_neT c38 (by decide : (171 : Int32).toInt = 171)
  have nc50 := lv_neT c50 (by decide : (172 : Int32).toInt = 172)
  have nc51 := lv_neT c51 (by decide : (173 : Int32).toInt = 173)
  have nc52 := lv_neT c52 (by decide : (174 : Int32).toInt = 174)
  have nc64 := lv_neT c64 (by decide : (175 : Int32).toInt = 175)
  have nc76 := lv_neT c76 (by decide : (176 : Int32).toInt = 176)
  have nc88 := lv_neT c88 (by decide : (177 : Int32).toInt = 177)
  have nc100 := lv_neT c100 (by decide : (178 : Int32).toInt = 178)
  have nc112 := lv_neT c112 (by decide : (179 : Int32).toInt = 179)
  have nc124 := lv_neT c124 (by decide : (180 : Int32).toInt = 180)
  have nc136 := lv_neT c136 (by decide : (181 : Int32).toInt = 181)
  have nc148 := lv_neT c148 (by decide : (182 : Int32).toInt = 182)
  have nc160 := lv_neT c160 (by decide : (183 : Int32).toInt = 183)
  have nc172 := lv_neT c172 (by decide : (184 : Int32).toInt = 184)
  have nc184 := lv_neT c184 (by decide : (185 : Int32).toInt = 185)
  have nc196 := lv_neT c196 (by decide : (186 : Int32).toInt = 186)
  have nc208 := lv_neT c208 (by decide : (187 : Int32).toInt = 187)
  have nc220 := lv_neT c220 (by decide : (188 : Int32).toInt = 188)
  have nc232 := lv_neT c232 (by decide : (189 : Int32).toInt = 189)
  have nc244 := lv_neT c244 (by decide : (190 : Int32).toInt = 190)
  have nc256 := lv_neT c256 (by decide : (191 : Int32).toInt = 191)
  have nc268 := lv_neT c268 (by decide : (192 : Int32).toInt = 192)
  have nc269 := lv_neT c269 (by decide : (193 : Int32).toInt = 193)
  have nc270 := lv_neT c270 (by decide : (194 : Int32).toInt = 194)
  have nc271 := lv_neT c271 (by decide : (195 : Int32).toInt = 195)
  have nc272 := lv_neT c272 (by decide : (196 : Int32).toInt = 196)
  refine pm_tableOut (tgt := 184) C dX8_toWhole_1 (by omega) (by decide) ?_
  refine pm_aload_n C dX8_toWhole_184 rfl rfl ?_
  refine pm_iload_n C dX8_toWhole_185 rfl rfl ?_
  obtain ⟨v273, e274, hf⟩ := pm_bd hf
  refine pm_callS (as := [.int p1]) (st := [.ref a0]) C X dX8_toWhole_186 lnX8_27 myX8_operandType stX8_operandType ⟨by decide, by decide⟩ rfl rfl (Nat.le_of_ble_eq_true rfl) (Nat.le_refl _) (Nat.le_refl _) (ctX8_operandType e274 ?_)
  show pm_G g 189 [(0, .ref a0), (1, .int p1), (2, .long p2)] [.int v273, .ref a0] h 0 0
  refine pm_iload_n C dX8_toWhole_189 rfl rfl ?_
  obtain ⟨v275, e276, hf⟩ := pm_bd hf
  refine pm_callS (as := [.int p1]) (st := [.int v273, .ref a0]) C X dX8_toWhole_190 lnX8_189 myX8_resultType stX8_resultType ⟨by decide, by decide⟩ rfl rfl (Nat.le_of_ble_eq_true rfl) (Nat.le_refl _) (Nat.le_refl _) (ctX8_resultType e276 ?_)
  show pm_G g 193 [(0, .ref a0), (1, .int p1), (2, .long p2)] [.int v275, .int v273, .ref a0] h 0 0
  refine pm_if_ne (tgt := 201) C dX8_toWhole_193 (by decide) (fun c277 => ?_) (fun c277 => ?_)
  · have hf := pm_ie hf c277
    refine pm_bipush (v := 64) C dX8_toWhole_201 (by decide) ?_
    refine pm_iload_n C dX8_toWhole_203 rfl rfl ?_
    refine pm_lload_n C dX8_toWhole_204 rfl rfl ?_
    obtain ⟨k278, hf⟩ := pm_if hf
    obtain ⟨v279, e280, hf⟩ := pm_bd hf
    refine pm_callV (as := [.int v273, .int 64, .int p1, .long p2]) (st := []) C X dX8_toWhole_205 lnX8_192 myX8_truncated viX8_truncated ⟨by decide, by decide⟩ rfl rfl k278 (Nat.le_of_ble_eq_true rfl) (Nat.le_refl _) (Nat.le_refl _) (ctX8_truncated e280 ?_)
    show pm_G g 208 [(0, .ref a0), (1, .int p1), (2, .long p2)] [.long v279.1] v279.2 0 0
    cases hf
    exact pm_lret C X dX8_toWhole_208 rfl (Nat.le_refl _) (Nat.le_refl _) q
  · have hf := pm_it hf c277
    refine pm_bipush (v := 32) C dX8_toWhole_196 (by decide) ?_
    refine pm_goto (tgt := 203) C dX8_toWhole_198 (by decide) ?_
    refine pm_iload_n C dX8_toWhole_203 rfl rfl ?_
    refine pm_lload_n C dX8_toWhole_204 rfl rfl ?_
    obtain ⟨k281, hf⟩ := pm_if hf
    obtain ⟨v282, e283, hf⟩ := pm_bd hf
    refine pm_callV (as := [.int v273, .int 32, .int p1, .long p2]) (st := []) C X dX8_toWhole_205 lnX8_192 myX8_truncated viX8_truncated ⟨by decide, by decide⟩ rfl rfl k281 (Nat.le_of_ble_eq_true rfl) (Nat.le_refl _) (Nat.le_refl _) (ctX8_truncated e283 ?_)
    show pm_G g 208 [(0, .ref a0), (1, .int p1), (2, .long p2)] [.long v282.1] v282.2 0 0
    cases hf
    exact pm_lret C X dX8_toWhole_208 rfl (Nat.le_refl _) (Nat.le_refl _) q
set_option maxHeartbeats 4000000 in
set_option maxRecDepth 100000 in
theorem kpX8_toWhole {h : pm_H} {a0 : Nat} {p1 : Int32} {p2 : Int64} {r : (Int64 × pm_H)} (hf : fX8_toWhole h a0 p1 p2 = some r) : pm_S3 r.2 h := by
  unfold fX8_toWhole at hf
  have K0 := pm_S3.rf h
  by_cases c1 : p1 = 167
  · have hf := pm_it hf c1
    cases hf
    exact K0
  have hf := pm_ie hf c1
  by_cases c2 : p1 = 168
  · have hf := pm_it hf c2
    obtain ⟨v3, e4, hf⟩ := pm_bd hf
    obtain ⟨v5, e6, hf⟩ := pm_bd hf
    by_cases c7 : v5 = 0
    · have hf := pm_it hf c7
      obtain ⟨k8, hf⟩ := pm_if hf
      obtain ⟨v9, e10, hf⟩ := pm_bd hf
      have K11 := pm_S3.trans (kpX8_truncated e10) K0
      cases hf
      exact K11
    · have hf := pm_ie hf c7
      obtain ⟨k12, hf⟩ := pm_if hf
      obtain ⟨v13, e14, hf⟩ := pm_bd hf
      have K15 := pm_S3.trans (kpX8_truncated e14) K0
      cases hf
      exact K15
  have hf := pm_ie hf c2
  by_cases c16 : p1 = 169
  · have hf := pm_it hf c16
    obtain ⟨v17, e18, hf⟩ := pm_bd hf
    obtain ⟨v19, e20, hf⟩ := pm_bd hf
    by_cases c21 : v19 = 0
    · have hf := pm_it hf c21
      obtain ⟨k22, hf⟩ := pm_if hf
      obtain ⟨v23, e24, hf⟩ := pm_bd hf
      have K25 := pm_S3.trans (kpX8_truncated e24) K0
      cases hf
      exact K25
    · have hf := pm_ie hf c21
      obtain ⟨k26, hf⟩ := pm_if hf
      obtain ⟨v27, e28, hf⟩ := pm_bd hf
      have K29 := pm_S3.trans (kpX8_truncated e28) K0
      cases hf
      exact K29
  have hf := pm_ie hf c16
  by_cases c30 : p1 = 170
  · have hf := pm_it hf c30
    obtain ⟨v31, e32, hf⟩ := pm_bd hf
    obtain ⟨v33, e34, hf⟩ := pm_bd hf
    by_cases c35 : v33 = 0
    · have hf := pm_it hf c35
      obtain ⟨k36, hf⟩ := pm_if hf
      obtain ⟨v37, e38, hf⟩ := pm_bd hf
      have K39 := pm_S3.trans (kpX8_truncated e38) K0
      cases hf
      exact K39
    · have hf := pm_ie hf c35
      obtain ⟨k40, hf⟩ := pm_if hf
      obtain ⟨v41, e42, hf⟩ := pm_bd hf
      have K43 := pm_S3.trans (kpX8_truncated e42) K0
      cases hf
      exact K43
  have hf := pm_ie hf c30
  by_cases c44 : p1 = 171
  · have hf := pm_it hf c44
    obtain ⟨v45, e46, hf⟩ := pm_bd hf
    obtain ⟨v47, e48, hf⟩ := pm_bd hf
    by_cases c49 : v47 = 0
    · have hf := pm_it hf c49
      obtain ⟨k50, hf⟩ := pm_if hf
      obtain ⟨v51, e52, hf⟩ := pm_bd hf
      have K53 := pm_S3.trans (kpX8_truncated e52) K0
      cases hf
      exact K53
    · have hf := pm_ie hf c49
      obtain ⟨k54, hf⟩ := pm_if hf
      obtain ⟨v55, e56, hf⟩ := pm_bd hf
      have K57 := pm_S3.trans (kpX8_truncated e56) K0
      cases hf
      exact K57
  have hf := pm_ie hf c44
  by_cases c58 : p1 = 172
  · have hf := pm_it hf c58
    cases hf
    exact K0
  have hf := pm_ie hf c58
  by_cases c59 : p1 = 173
  · have hf := pm_it hf c59
    cases hf
    exact K0
  have hf := pm_ie hf c59
  by_cases c60 : p1 = 174
  · have hf := pm_it hf c60
    obtain ⟨v61, e62, hf⟩ := pm_bd hf
    obtain ⟨v63, e64, hf⟩ := pm_bd hf
    by_cases c65 : v63 = 0
    · have hf := pm_it hf c65
      obtain ⟨k66, hf⟩ := pm_if hf
      obtain ⟨v67, e68, hf⟩ := pm_bd hf
      have K69 := pm_S3.trans (kpX8_truncated e68) K0
      cases hf
      exact K69
    · have hf := pm_ie hf c65
      obtain ⟨k70, hf⟩ := pm_if hf
      obtain ⟨v71, e72, hf⟩ := pm_bd hf
      have K73 := pm_S3.trans (kpX8_truncated e72) K0
      cases hf
      exact K73
  have hf := pm_ie hf c60
  by_cases c74 : p1 = 175
  · have hf := pm_it hf c74
    obtain ⟨v75, e76, hf⟩ := pm_bd hf
    obtain ⟨v77, e78, hf⟩ := pm_bd hf
    by_cases c79 : v77 = 0
    · have hf := pm_it hf c79
      obtain ⟨k80, hf⟩ := pm_if hf
      obtain ⟨v81, e82, hf⟩ := pm_bd hf
      have K83 := pm_S3.trans (kpX8_truncated e82) K0
      cases hf
      exact K83
    · have hf := pm_ie hf c79
      obtain ⟨k84, hf⟩ := pm_if hf
      obtain ⟨v85, e86, hf⟩ := pm_bd hf
      have K87 := pm_S3.trans (kpX8_truncated e86) K0
      cases hf
      exact K87
  have hf := pm_ie hf c74
  by_cases c88 : p1 = 176
  · have hf := pm_it hf c88
    obtain ⟨v89, e90, hf⟩ := pm_bd hf
    obtain ⟨v91, e92, hf⟩ := pm_bd hf
    by_cases c93 : v91 = 0
    · have hf := pm_it hf c93
      obtain ⟨k94, hf⟩ := pm_if hf
      obtain ⟨v95, e96, hf⟩ := pm_bd hf
      have K97 := pm_S3.trans (kpX8_truncated e96) K0
      cases hf
      exact K97
    · have hf := pm_ie hf c93
      obtain ⟨k98, hf⟩ := pm_if hf
      obtain ⟨v99, e100, hf⟩ := pm_bd hf
      have K101 := pm_S3.trans (kpX8_truncated e100) K0
      cases hf
      exact K101
  have hf := pm_ie hf c88
  by_cases c102 : p1 = 177
  · have hf := pm_it hf c102
    obtain ⟨v103, e104, hf⟩ := pm_bd hf
    obtain ⟨v105, e106, hf⟩ := pm_bd hf
    by_cases c107 : v105 = 0
    · have hf := pm_it hf c107
      obtain ⟨k108, hf⟩ := pm_if hf
      obtain ⟨v109, e110, hf⟩ := pm_bd hf
      have K111 := pm_S3.trans (kpX8_truncated e110) K0
      cases hf
      exact K111
    · have hf := pm_ie hf c107
      obtain ⟨k112, hf⟩ := pm_if hf
      obtain ⟨v113, e114, hf⟩ := pm_bd hf
      have K115 := pm_S3.trans (kpX8_truncated e114) K0
      cases hf
      exact K115
  have hf := pm_ie hf c102
  by_cases c116 : p1 = 178
  · have hf := pm_it hf c116
    obtain ⟨v117, e118, hf⟩ := pm_bd hf
    obtain ⟨v119, e120, hf⟩ := pm_bd hf
    by_cases c121 : v119 = 0
    · have hf := pm_it hf c121
      obtain ⟨k122, hf⟩ := pm_if hf
      obtain ⟨v123, e124, hf⟩ := pm_bd hf
      have K125 := pm_S3.trans (kpX8_truncated e124) K0
      cases hf
      exact K125
    · have hf := pm_ie hf c121
      obtain ⟨k126, hf⟩ := pm_if hf
      obtain ⟨v127, e128, hf⟩ := pm_bd hf
      have K129 := pm_S3.trans (kpX8_truncated e128) K0
      cases hf
      exact K129
  have hf := pm_ie hf c116
  by_cases c130 : p1 = 179
  · have hf := pm_it hf c130
    obtain ⟨v131, e132, hf⟩ := pm_bd hf
    obtain ⟨v133, e134, hf⟩ := pm_bd hf
    by_cases c135 : v133 = 0
    · have hf := pm_it hf c135
      obtain ⟨k136, hf⟩ := pm_if hf
      obtain ⟨v137, e138, hf⟩ := pm_bd hf
      have K139 := pm_S3.trans (kpX8_truncated e138) K0
      cases hf
      exact K139
    · have hf := pm_ie hf c135
      obtain ⟨k140, hf⟩ := pm_if hf
      obtain ⟨v141, e142, hf⟩ := pm_bd hf
      have K143 := pm_S3.trans (kpX8_truncated e142) K0
      cases hf
      exact K143
  have hf := pm_ie hf c130
  by_cases c144 : p1 = 180
  · have hf := pm_it hf c144
    obtain ⟨v145, e146, hf⟩ := pm_bd hf
    obtain ⟨v147, e148, hf⟩ := pm_bd hf
    by_cases c149 : v147 = 0
    · have hf := pm_it hf c149
      obtain ⟨k150, hf⟩ := pm_if hf
      obtain ⟨v151, e152, hf⟩ := pm_bd hf
      have K153 := pm_S3.trans (kpX8_truncated e152) K0
      cases hf
      exact K153
    · have hf := pm_ie hf c149
      obtain ⟨k154, hf⟩ := pm_if hf
      obtain ⟨v155, e156, hf⟩ := pm_bd hf
      have K157 := pm_S3.trans (kpX8_truncated e156) K0
      cases hf
      exact K157
  have hf := pm_ie hf c144
  by_cases c158 : p1 = 181
  · have hf := pm_it hf c158
    obtain ⟨v159, e160, hf⟩ := pm_bd hf
    obtain ⟨v161, e162, hf⟩ := pm_bd hf
    by_cases c163 : v161 = 0
    · have hf := pm_it hf c163
      obtain ⟨k164, hf⟩ := pm_if hf
      obtain ⟨v165, e166, hf⟩ := pm_bd hf
      have K167 := pm_S3.trans (kpX8_truncated e166) K0
      cases hf
      exact K167
    · have hf := pm_ie hf c163
      obtain ⟨k168, hf⟩ := pm_if hf
      obtain ⟨v169, e170, hf⟩ := pm_bd hf
      have K171 := pm_S3.trans (kpX8_truncated e170) K0
      cases hf
      exact K171
  have hf := pm_ie hf c158
  by_cases c172 : p1 = 182
  · have hf := pm_it hf c172
    obtain ⟨v173, e174, hf⟩ := pm_bd hf
    obtain ⟨v175, e176, hf⟩ := pm_bd hf
    by_cases c177 : v175 = 0
    · have hf := pm_it hf c177
      obtain ⟨k178, hf⟩ := pm_if hf
      obtain ⟨v179, e180, hf⟩ := pm_bd hf
      have K181 := pm_S3.trans (kpX8_truncated e180) K0
      cases hf
      exact K181
    · have hf := pm_ie hf c177
      obtain ⟨k182, hf⟩ := pm_if hf
      obtain ⟨v183, e184, hf⟩ := pm_bd hf
      have K185 := pm_S3.trans (kpX8_truncated e184) K0
      cases hf
      exact K185
  have hf := pm_ie hf c172
  by_cases c186 : p1 = 183
  · have hf := pm_it hf c186
    obtain ⟨v187, e188, hf⟩ := pm_bd hf
    obtain ⟨v189, e190, hf⟩ := pm_bd hf
    by_cases c191 : v189 = 0
    · have hf := pm_it hf c191
      obtain ⟨k192, hf⟩ := pm_if hf
      obtain ⟨v193, e194, hf⟩ := pm_bd hf
      have K195 := pm_S3.trans (kpX8_truncated e194) K0
      cases hf
      exact K195
    · have hf := pm_ie hf c191
      obtain ⟨k196, hf⟩ := pm_if hf
      obtain ⟨v197, e198, hf⟩ := pm_bd hf
      have K199 := pm_S3.trans (kpX8_truncated e198) K0
      cases hf
      exact K199
  have hf := pm_ie hf c186
  by_cases c200 : p1 = 184
  · have hf := pm_it hf c200
    obtain ⟨v201, e202, hf⟩ := pm_bd hf
    obtain ⟨v203, e204, hf⟩ := pm_bd hf
    by_cases c205 : v203 = 0
    · have hf := pm_it hf c205
      obtain ⟨k206, hf⟩ := pm_if hf
      obtain ⟨v207, e208, hf⟩ := pm_bd hf
      have K209 := pm_S3.trans (kpX8_truncated e208) K0
      cases hf
      exact K209
    · have hf := pm_ie hf c205
      obtain ⟨k210, hf⟩ := pm_if hf
      obtain ⟨v211, e212, hf⟩ := pm_bd hf
      have K213 := pm_S3.trans (kpX8_truncated e212) K0
      cases hf
      exact K213
  have hf := pm_ie hf c200
  by_cases c214 : p1 = 185
  · have hf := pm_it hf c214
    obtain ⟨v215, e216, hf⟩ := pm_bd hf
    obtain ⟨v217, e218, hf⟩ := pm_bd hf
    by_cases c219 : v217 = 0
    · have hf := pm_it hf c219
      obtain ⟨k220, hf⟩ := pm_if hf
      obtain ⟨v221, e222, hf⟩ := pm_bd hf
      have K223 := pm_S3.trans (kpX8_truncated e222) K0
      cases hf
      exact K223
    · have hf := pm_ie hf c219
      obtain ⟨k224, hf⟩ := pm_if hf
      obtain ⟨v225, e226, hf⟩ := pm_bd hf
      have K227 := pm_S3.trans (kpX8_truncated e226) K0
      cases hf
      exact K227
  have hf := pm_ie hf c214
  by_cases c228 : p1 = 186
  · have hf := pm_it hf c228
    obtain ⟨v229, e230, hf⟩ := pm_bd hf
    obtain ⟨v231, e232, hf⟩ := pm_bd hf
    by_cases c233 : v231 = 0
    · have hf := pm_it hf c233
      obtain ⟨k234, hf⟩ := pm_if hf
      obtain ⟨v235, e236, hf⟩ := pm_bd hf
      have K237 := pm_S3.trans (kpX8_truncated e236) K0
      cases hf
      exact K237
    · have hf := pm_ie hf c233
      obtain ⟨k238, hf⟩ := pm_if hf
      obtain ⟨v239, e240, hf⟩ := pm_bd hf
      have K241 := pm_S3.trans (kpX8_truncated e240) K0
      cases hf
      exact K241
  have hf := pm_ie hf c228
  by_cases c242 : p1 = 187
  · have hf := pm_it hf c242
    obtain ⟨v243, e244, hf⟩ := pm_bd hf
    obtain ⟨v245, e246, hf⟩ := pm_bd hf
    by_cases c247 : v245 = 0
    · have hf := pm_it hf c247
      obtain ⟨k248, hf⟩ := pm_if hf
      obtain ⟨v249, e250, hf⟩ := pm_bd hf
      have K251 := pm_S3.trans (kpX8_truncated e250) K0
      cases hf
      exact K251
    · have hf := pm_ie hf c247
      obtain ⟨k252, hf⟩ := pm_if hf
      obtain ⟨v253, e254, hf⟩ := pm_bd hf
      have K255 := pm_S3.trans (kpX8_truncated e254) K0
      cases hf
      exact K255
  have hf := pm_ie hf c242
  by_cases c256 : p1 = 188
  · have hf := pm_it hf c256
    obtain ⟨v257, e258, hf⟩ := pm_bd hf
    obtain ⟨v259, e260, hf⟩ := pm_bd hf
    by_cases c261 : v259 = 0
    · have hf := pm_it hf c261
      obtain ⟨k262, hf⟩ := pm_if hf
      obtain ⟨v263, e264, hf⟩ := pm_bd hf
      have K265 := pm_S3.trans (kpX8_truncated e264) K0
      cases hf
      exact K265
    · have hf := pm_ie hf c261
      obtain ⟨k266, hf⟩ := pm_if hf
      obtain ⟨v267, e268, hf⟩ := pm_bd hf
      have K269 := pm_S3.trans (kpX8_truncated e268) K0
      cases hf
      exact K269
  have hf := pm_ie hf c256
  by_cases c270 : p1 = 189
  · have hf := pm_it hf c270
    obtain ⟨v271, e272, hf⟩ := pm_bd hf
    obtain ⟨v273, e274, hf⟩ := pm_bd hf
    by_cases c275 : v273 = 0
    · have hf := pm_it hf c275
      obtain ⟨k276, hf⟩ := pm_if hf
      obtain ⟨v277, e278, hf⟩ := pm_bd hf
      have K279 := pm_S3.trans (kpX8_truncated e278) K0
      cases hf
      exact K279
    · have hf := pm_ie hf c275
      obtain ⟨k280, hf⟩ := pm_if hf
      obtain ⟨v281, e282, hf⟩ := pm_bd hf
      have K283 := pm_S3.trans (kpX8_truncated e282) K0
      cases hf
      exact K283
  have hf := pm_ie hf c270
  by_cases c284 : p1 = 190
  · have hf := pm_it hf c284
    obtain ⟨v285, e286, hf⟩ := pm_bd hf
    obtain ⟨v287, e288, hf⟩ := pm_bd hf
    by_cases c289 : v287 = 0
    · have hf := pm_it hf c289
      obtain ⟨k290, hf⟩ := pm_if hf
      obtain ⟨v291, e292, hf⟩ := pm_bd hf
      have K293 := pm_S3.trans (kpX8_truncated e292) K0
      cases hf
      exact K293
    · have hf := pm_ie hf c289
      obtain ⟨k294, hf⟩ := pm_if hf
      obtain ⟨v295, e296, hf⟩ := pm_bd hf
      have K297 := pm_S3.trans (kpX8_truncated e296) K0
      cases hf
      exact K297
  have hf := pm_ie hf c284
  by_cases c298 : p1 = 191
  · have hf := pm_it hf c298
    obtain ⟨v299, e300, hf⟩ := pm_bd hf
    obtain ⟨v301, e302, hf⟩ := pm_bd hf
    by_cases c303 : v301 = 0
    · have hf := pm_it hf c303
      obtain ⟨k304, hf⟩ := pm_if hf
      obtain ⟨v305, e306, hf⟩ := pm_bd hf
      have K307 := pm_S3.trans (kpX8_truncated e306) K0
      cases hf
      exact K307
    · have hf := pm_ie hf c303
      obtain ⟨k308, hf⟩ := pm_if hf
      obtain ⟨v309, e310, hf⟩ := pm_bd hf
      have K311 := pm_S3.trans (kpX8_truncated e310) K0
      cases hf
      exact K311
  have hf := pm_ie hf c298
  by_cases c312 : p1 = 192
  · have hf := pm_it hf c312
    cases hf
    exact K0
  have hf := pm_ie hf c312
  by_cases c313 : p1 = 193
  · have hf := pm_it hf c313
    cases hf
    exact K0
  have hf := pm_ie hf c313
  by_cases c314 : p1 = 194
  · have hf := pm_it hf c314
    cases hf
    exact K0
  have hf := pm_ie hf c314
  by_cases c315 : p1 = 195
  · have hf := pm_it hf c315
    cases hf
    exact K0
  have hf := pm_ie hf c315
  by_cases c316 : p1 = 196
  · have hf := pm_it hf c316
    cases hf
    exact K0
  have hf := pm_ie hf c316
  obtain ⟨v317, e318, hf⟩ := pm_bd hf
  obtain ⟨v319, e320, hf⟩ := pm_bd hf
  by_cases c321 : v319 = 0
  · have hf := pm_it hf c321
    obtain ⟨k322, hf⟩ := pm_if hf
    obtain ⟨v323, e324, hf⟩ := pm_bd hf
    have K325 := pm_S3.trans (kpX8_truncated e324) K0
    cases hf
    exact K325
  · have hf := pm_ie hf c321
    obtain ⟨k326, hf⟩ := pm_if hf
    obtain ⟨v327, e328, hf⟩ := pm_bd hf
    have K329 := pm_S3.trans (kpX8_truncated e328) K0
    cases hf
    exact K329
