set_option maxRecDepth 100000 in
theorem lw_c0 {g : pm_Gm} {l : Launch} {G : pm_Gl} {Qr : Option Value → pm_H → Prop} (C : pm_C g code RL) (X : pm_X g l G mL_law 600002 7302232 Qr) {b L j x m : Nat} {xs : Nat → Int32} {h h2 : pm_H} (SX : pl_S g b L xs) (hj : j + 6 ≤ L) (hL : L ≤ 384) (hk1 : pm_kd h x = 12) (R0 : pl_R h) (hf : lw_s0 (fun i => xs (j + i)) x m h = some h2) (kk : pm_G g 706 [(3, .int (Int32.ofNat j)), (2, .ref m), (1, .ref x), (0, .retAddr b)] [] h2 (pm_sz h2) (pm_us h2)) : pm_G g 120 [(3, .int (Int32.ofNat j)), (2, .ref m), (1, .ref x), (0, .retAddr b)] [] h (pm_sz h) (pm_us h) := by
  unfold lw_s0 at hf
  obtain ⟨r1, e1, hf⟩ := pm_bd hf
  obtain ⟨⟨hk2, R1⟩, hf⟩ := pm_if hf
  obtain ⟨r2, e2, hf⟩ := pm_bd hf
  obtain ⟨⟨he, R2⟩, hf⟩ := pm_if hf
  have hf := Option.some.inj hf
  subst hf
  refine pm_aload_n C dL_law_120 rfl rfl ?_
  refine pm_aloadT C dL_law_121 rfl rfl ?_
  refine pm_iload_n C dL_law_122 rfl rfl ?_
  refine pm_iconst (v := Int32.ofNat 1) C dL_law_123 (by decide) ?_
  refine pm_iadd C dL_law_124 ?_
  refine pl_sld (v := xs (j + 1)) C SX dL_law_125 (pl_ix 1 (by decide) hj hL).1 (by rw [(pl_ix 1 (by decide) hj hL).2]) ?_
  refine pm_aloadT C dL_law_126 rfl rfl ?_
  refine pm_iload_n C dL_law_127 rfl rfl ?_
  refine pm_iconst (v := Int32.ofNat 2) C dL_law_128 (by decide) ?_
  refine pm_iadd C dL_law_129 ?_
  refine pl_sld (v := xs (j + 2)) C SX dL_law_130 (pl_ix 2 (by decide) hj hL).1 (by rw [(pl_ix 2 (by decide) hj hL).2]) ?_
  refine pm_aloadT C dL_law_131 rfl rfl ?_
  refine pm_iload_n C dL_law_132 rfl rfl ?_
  refine pm_iconst (v := Int32.ofNat 3) C dL_law_133 (by decide) ?_
  refine pm_iadd C dL_law_134 ?_
  refine pl_sld (v := xs (j + 3)) C SX dL_law_135 (pl_ix 3 (by decide) hj hL).1 (by rw [(pl_ix 3 (by decide) hj hL).2]) ?_
  refine pm_aloadT C dL_law_136 rfl rfl ?_
  refine pm_iload_n C dL_law_137 rfl rfl ?_
  refine pm_iconst (v := Int32.ofNat 4) C dL_law_138 (by decide) ?_
  refine pm_iadd C dL_law_139 ?_
  refine pl_sld (v := xs (j + 4)) C SX dL_law_140 (pl_ix 4 (by decide) hj hL).1 (by rw [(pl_ix 4 (by decide) hj hL).2]) ?_
  refine pm_aloadT C dL_law_141 rfl rfl ?_
  refine pm_iload_n C dL_law_142 rfl rfl ?_
  refine pm_iconst (v := Int32.ofNat 5) C dL_law_143 (by decide) ?_
  refine pm_iadd C dL_law_144 ?_
  refine pl_sld (v := xs (j + 5)) C SX dL_law_145 (pl_ix 5 (by decide) hj hL).1 (by rw [(pl_ix 5 (by decide) hj hL).2]) ?_
  refine pm_callV (as := [.int (xs (j + 1)), .int (xs (j + 2)), .int (xs (j + 3)), .int (xs (j + 4)), .int (xs (j + 5))]) (st := []) C X dL_law_146 lnL_13 myX12_feed viX12_feed ⟨by decide, by decide⟩ rfl rfl hk1 (Nat.le_of_ble_eq_true rfl) R0.1 R0.2 (ctX12_feed e1 ?_)
  show pm_G g 149 [(3, .int (Int32.ofNat j)), (2, .ref m), (1, .ref x), (0, .retAddr b)] [.int r1.1] r1.2 (pm_sz h + 0) (pm_us h + 0)
  refine pl_goK (kpX12_feed e1) ?_
  refine pm_aload_n C dL_law_149 rfl rfl ?_
  refine pm_aloadT C dL_law_150 rfl rfl ?_
  refine pm_iload_n C dL_law_151 rfl rfl ?_
  refine pm_iconst (v := Int32.ofNat 1) C dL_law_152 (by decide) ?_
  refine pm_iadd C dL_law_153 ?_
  refine pl_sld (v := xs (j + 1)) C SX dL_law_154 (pl_ix 1 (by decide) hj hL).1 (by rw [(pl_ix 1 (by decide) hj hL).2]) ?_
  refine pm_aloadT C dL_law_155 rfl rfl ?_
  refine pm_iload_n C dL_law_156 rfl rfl ?_
  refine pm_iconst (v := Int32.ofNat 2) C dL_law_157 (by decide) ?_
  refine pm_iadd C dL_law_158 ?_
  refine pl_sld (v := xs (j + 2)) C SX dL_law_159 (pl_ix 2 (by decide) hj hL).1 (by rw [(pl_ix 2 (by decide) hj hL).2]) ?_
  refine pm_aloadT C dL_law_160 rfl rfl ?_
  refine pm_iload_n C dL_law_161 rfl rfl ?_
  refine pm_iconst (v := Int32.ofNat 3) C dL_law_162 (by decide) ?_
  refine pm_iadd C dL_law_163 ?_
  refine pl_sld (v := xs (j + 3)) C SX dL_law_164 (pl_ix 3 (by decide) hj hL).1 (by rw [(pl_ix 3 (by decide) hj hL).2]) ?_
  refine pm_aloadT C dL_law_165 rfl rfl ?_
  refine pm_iload_n C dL_law_166 rfl rfl ?_
  refine pm_iconst (v := Int32.ofNat 4) C dL_law_167 (by decide) ?_
  refine pm_iadd C dL_law_168 ?_
  refine pl_sld (v := xs (j + 4)) C SX dL_law_169 (pl_ix 4 (by decide) hj hL).1 (by rw [(pl_ix 4 (by decide) hj hL).2]) ?_
  refine pm_aloadT C dL_law_170 rfl rfl ?_
  refine pm_iload_n C dL_law_171 rfl rfl ?_
  refine pm_iconst (v := Int32.ofNat 5) C dL_law_172 (by decide) ?_
  refine pm_iadd C dL_law_173 ?_
  refine pl_sld (v := xs (j + 5)) C SX dL_law_174 (pl_ix 5 (by decide) hj hL).1 (by rw [(pl_ix 5 (by decide) hj hL).2]) ?_
  refine pm_callV (as := [.int (xs (j + 1)), .int (xs (j + 2)), .int (xs (j + 3)), .int (xs (j + 4)), .int (xs (j + 5))]) (st := [.int r1.1]) C X dL_law_175 lnL_17 myX16_feed viX16_feed ⟨by decide, by decide⟩ rfl rfl hk2 (Nat.le_of_ble_eq_true rfl) R1.1 R1.2 (ctX16_feed e2 ?_)
  show pm_G g 178 [(3, .int (Int32.ofNat j)), (2, .ref m), (1, .ref x), (0, .retAddr b)] [.int r2.1, .int r1.1] r2.2 (pm_sz r1.2 + 0) (pm_us r1.2 + 0)
  refine pl_goK (kpX16_feed e2) ?_
  refine pm_icmp_eq (tgt := 706) C dL_law_178 (by decide) (fun _ => kk) (fun c => absurd he c)

set_option maxRecDepth 100000 in
theorem lw_c1 {g : pm_Gm} {l : Launch} {G : pm_Gl} {Qr : Option Value → pm_H → Prop} (C : pm_C g code RL) (X : pm_X g l G mL_law 600002 7302232 Qr) {b L j x m : Nat} {xs : Nat → Int32} {h h2 : pm_H} (SX : pl_S g b L xs) (hj : j + 6 ≤ L) (hL : L ≤ 384) (hk1 : pm_kd h x = 12) (R0 : pl_R h) (hf : lw_s1 (fun i => xs (j + i)) x m h = some h2) (kk : pm_G g 706 [(3, .int (Int32.ofNat j)), (2, .ref m), (1, .ref x), (0, .retAddr b)] [] h2 (pm_sz h2) (pm_us h2)) : pm_G g 183 [(3, .int (Int32.ofNat j)), (2, .ref m), (1, .ref x), (0, .retAddr b)] [] h (pm_sz h) (pm_us h) := by
  unfold lw_s1 at hf
  obtain ⟨r1, e1, hf⟩ := pm_bd hf
  obtain ⟨⟨hk2, R1⟩, hf⟩ := pm_if hf
  obtain ⟨r2, e2, hf⟩ := pm_bd hf
  obtain ⟨⟨he, R2⟩, hf⟩ := pm_if hf
  have hf := Option.some.inj hf
  subst hf
  refine pm_aload_n C dL_law_183 rfl rfl ?_
  refine pm_aloadT C dL_law_184 rfl rfl ?_
  refine pm_iload_n C dL_law_185 rfl rfl ?_
  refine pm_iconst (v := Int32.ofNat 1) C dL_law_186 (by decide) ?_
  refine pm_iadd C dL_law_187 ?_
  refine pl_sld (v := xs (j + 1)) C SX dL_law_188 (pl_ix 1 (by decide) hj hL).1 (by rw [(pl_ix 1 (by decide) hj hL).2]) ?_
  refine pm_callV (as := [.int (xs (j + 1))]) (st := []) C X dL_law_189 lnL_18 myX12_module viX12_module ⟨by decide, by decide⟩ rfl rfl hk1 (Nat.le_of_ble_eq_true rfl) (pl_1 (moX12_module e1) R1) (pl_2 (moX12_module e1) R1) (ctX12_module e1 ?_)
  show pm_G g 192 [(3, .int (Int32.ofNat j)), (2, .ref m), (1, .ref x), (0, .retAddr b)] [.int r1.1] r1.2 (pm_sz h + (pm_sz r1.2 - pm_sz h)) (pm_us h + (pm_us r1.2 - pm_us h))
  refine pl_go (moX12_module e1) ?_
  refine pm_aload_n C dL_law_192 rfl rfl ?_
  refine pm_aloadT C dL_law_193 rfl rfl ?_
  refine pm_iload_n C dL_law_194 rfl rfl ?_
  refine pm_iconst (v := Int32.ofNat 1) C dL_law_195 (by decide) ?_
  refine pm_iadd C dL_law_196 ?_
  refine pl_sld (v := xs (j + 1)) C SX dL_law_197 (pl_ix 1 (by decide) hj hL).1 (by rw [(pl_ix 1 (by decide) hj hL).2]) ?_
  refine pm_callVW (as := [.int (xs (j + 1))]) (st := [.int r1.1]) C X dL_law_198 ltL_22 mdW mdI nhX16 pd0 viX16_module ⟨by decide, by decide⟩ rfl rfl hk2 (Nat.le_of_ble_eq_true rfl) (pl_1 (moX16_module e2) R2) (pl_2 (moX16_module e2) R2) (ctX16_module e2 ?_)
  show pm_G g 201 [(3, .int (Int32.ofNat j)), (2, .ref m), (1, .ref x), (0, .retAddr b)] [.int r2.1, .int r1.1] r2.2 (pm_sz r1.2 + (pm_sz r2.2 - pm_sz r1.2)) (pm_us r1.2 + (pm_us r2.2 - pm_us r1.2))
  refine pl_go (moX16_module e2) ?_
  refine pm_icmp_eq (tgt := 706) C dL_law_201 (by decide) (fun _ => kk) (fun c => absurd he c)

set_option maxRecDepth 100000 in
theorem lw_c2 {g : pm_Gm} {l : Launch} {G : pm_Gl} {Qr : Option Value → pm_H → Prop} (C : pm_C g code RL) (X : pm_X g l G mL_law 600002 7302232 Qr) {b L j x m : Nat} {xs : Nat → Int32} {h h2 : pm_H} (SX : pl_S g b L xs) (hj : j + 6 ≤ L) (hL : L ≤ 384) (hk1 : pm_kd h x = 12) (R0 : pl_R h) (hf : lw_s2 (fun i => xs (j + i)) x m h = some h2) (kk : pm_G g 706 [(3, .int (Int32.ofNat j)), (2, .ref m), (1, .ref x), (0, .retAddr b)] [] h2 (pm_sz h2) (pm_us h2)) : pm_G g 206 [(3, .int (Int32.ofNat j)), (2, .ref m), (1, .ref x), (0, .retAddr b)] [] h (pm_sz h) (pm_us h) := by
  unfold lw_s2 at hf
  obtain ⟨r1, e1, hf⟩ := pm_bd hf
  obtain ⟨⟨hk2, R1⟩, hf⟩ := pm_if hf
  obtain ⟨r2, e2, hf⟩ := pm_bd hf
  obtain ⟨⟨he, R2⟩, hf⟩ := pm_if hf
  have hf := Option.some.inj hf
  subst hf
  refine pm_aload_n C dL_law_206 rfl rfl ?_
  refine pm_aloadT C dL_law_207 rfl rfl ?_
  refine pm_iload_n C dL_law_208 rfl rfl ?_
  refine pm_iconst (v := Int32.ofNat 1) C dL_law_209 (by decide) ?_
  refine pm_iadd C dL_law_210 ?_
  refine pl_sld (v := xs (j + 1)) C SX dL_law_211 (pl_ix 1 (by decide) hj hL).1 (by rw [(pl_ix 1 (by decide) hj hL).2]) ?_
  refine pm_callV (as := [.int (xs (j + 1))]) (st := []) C X dL_law_212 lnL_23 myX12_fault viX12_fault ⟨by decide, by decide⟩ rfl rfl hk1 (Nat.le_of_ble_eq_true rfl) R0.1 R0.2 (ctX12_fault e1 ?_)
  show pm_G g 215 [(3, .int (Int32.ofNat j)), (2, .ref m), (1, .ref x), (0, .retAddr b)] [.int r1] h (pm_sz h + 0) (pm_us h + 0)
  refine pm_aload_n C dL_law_215 rfl rfl ?_
  refine pm_aloadT C dL_law_216 rfl rfl ?_
  refine pm_iload_n C dL_law_217 rfl rfl ?_
  refine pm_iconst (v := Int32.ofNat 1) C dL_law_218 (by decide) ?_
  refine pm_iadd C dL_law_219 ?_
  refine pl_sld (v := xs (j + 1)) C SX dL_law_220 (pl_ix 1 (by decide) hj hL).1 (by rw [(pl_ix 1 (by decide) hj hL).2]) ?_
  refine pm_callV (as := [.int (xs (j + 1))]) (st := [.int r1]) C X dL_law_221 lnL_26 myX16_fault viX16_fault ⟨by decide, by decide⟩ rfl rfl hk2 (Nat.le_of_ble_eq_true rfl) R1.1 R1.2 (ctX16_fault e2 ?_)
  show pm_G g 224 [(3, .int (Int32.ofNat j)), (2, .ref m), (1, .ref x), (0, .retAddr b)] [.int r2, .int r1] h (pm_sz h + 0) (pm_us h + 0)
  refine pm_icmp_eq (tgt := 706) C dL_law_224 (by decide) (fun _ => kk) (fun c => absurd he c)

set_option maxRecDepth 100000 in
theorem lw_c3 {g : pm_Gm} {l : Launch} {G : pm_Gl} {Qr : Option Value → pm_H → Prop} (C : pm_C g code RL) (X : pm_X g l G mL_law 600002 7302232 Qr) {b L j x m : Nat} {xs : Nat → Int32} {h h2 : pm_H} (SX : pl_S g b L xs) (hj : j + 6 ≤ L) (hL : L ≤ 384) (hk1 : pm_kd h x = 12) (R0 : pl_R h) (hf : lw_s3 (fun i => xs (j + i)) x m h = some h2) (kk : pm_G g 706 [(3, .int (Int32.ofNat j)), (2, .ref m), (1, .ref x), (0, .retAddr b)] [] h2 (pm_sz h2) (pm_us h2)) : pm_G g 229 [(3, .int (Int32.ofNat j)), (2, .ref m), (1, .ref x), (0, .retAddr b)] [] h (pm_sz h) (pm_us h) := by
  unfold lw_s3 at hf
  obtain ⟨r1, e1, hf⟩ := pm_bd hf
  obtain ⟨⟨hk2, R1⟩, hf⟩ := pm_if hf
  obtain ⟨r2, e2, hf⟩ := pm_bd hf
  obtain ⟨⟨he, R2⟩, hf⟩ := pm_if hf
  have hf := Option.some.inj hf
  subst hf
  refine pm_aload_n C dL_law_229 rfl rfl ?_
  refine pm_aloadT C dL_law_230 rfl rfl ?_
  refine pm_iload_n C dL_law_231 rfl rfl ?_
  refine pm_iconst (v := Int32.ofNat 1) C dL_law_232 (by decide) ?_
  refine pm_iadd C dL_law_233 ?_
  refine pl_sld (v := xs (j + 1)) C SX dL_law_234 (pl_ix 1 (by decide) hj hL).1 (by rw [(pl_ix 1 (by decide) hj hL).2]) ?_
  refine pm_aloadT C dL_law_235 rfl rfl ?_
  refine pm_iload_n C dL_law_236 rfl rfl ?_
  refine pm_iconst (v := Int32.ofNat 2) C dL_law_237 (by decide) ?_
  refine pm_iadd C dL_law_238 ?_
  refine pl_sld (v := xs (j + 2)) C SX dL_law_239 (pl_ix 2 (by decide) hj hL).1 (by rw [(pl_ix 2 (by decide) hj hL).2]) ?_
  refine pm_callV (as := [.int (xs (j + 1)), .int (xs (j + 2))]) (st := []) C X dL_law_240 lnL_27 myX12_offer viX12_offer ⟨by decide, by decide⟩ rfl rfl hk1 (Nat.le_of_ble_eq_true rfl) R0.1 R0.2 (ctX12_offer e1 ?_)
  show pm_G g 243 [(3, .int (Int32.ofNat j)), (2, .ref m), (1, .ref x), (0, .retAddr b)] [.int r1.1] r1.2 (pm_sz h + 0) (pm_us h + 0)
  refine pl_goK (kpX12_offer e1) ?_
  refine pm_aload_n C dL_law_243 rfl rfl ?_
  refine pm_aloadT C dL_law_244 rfl rfl ?_
  refine pm_iload_n C dL_law_245 rfl rfl ?_
  refine pm_iconst (v := Int32.ofNat 1) C dL_law_246 (by decide) ?_
  refine pm_iadd C dL_law_247 ?_
  refine pl_sld (v := xs (j + 1)) C SX dL_law_248 (pl_ix 1 (by decide) hj hL).1 (by rw [(pl_ix 1 (by decide) hj hL).2]) ?_
  refine pm_aloadT C dL_law_249 rfl rfl ?_
  refine pm_iload_n C dL_law_250 rfl rfl ?_
  refine pm_iconst (v := Int32.ofNat 2) C dL_law_251 (by decide) ?_
  refine pm_iadd C dL_law_252 ?_
  refine pl_sld (v := xs (j + 2)) C SX dL_law_253 (pl_ix 2 (by decide) hj hL).1 (by rw [(pl_ix 2 (by decide) hj hL).2]) ?_
  refine pm_callV (as := [.int (xs (j + 1)), .int (xs (j + 2))]) (st := [.int r1.1]) C X dL_law_254 lnL_31 myX16_offer viX16_offer ⟨by decide, by decide⟩ rfl rfl hk2 (Nat.le_of_ble_eq_true rfl) R1.1 R1.2 (ctX16_offer e2 ?_)
  show pm_G g 257 [(3, .int (Int32.ofNat j)), (2, .ref m), (1, .ref x), (0, .retAddr b)] [.int r2.1, .int r1.1] r2.2 (pm_sz r1.2 + 0) (pm_us r1.2 + 0)
  refine pl_goK (kpX16_offer e2) ?_
  refine pm_icmp_eq (tgt := 706) C dL_law_257 (by decide) (fun _ => kk) (fun c => absurd he c)

set_option maxRecDepth 100000 in
theorem lw_c4 {g : pm_Gm} {l : Launch} {G : pm_Gl} {Qr : Option Value → pm_H → Prop} (C : pm_C g code RL) (X : pm_X g l G mL_law 600002 7302232 Qr) {b L j x m : Nat} {xs : Nat → Int32} {h h2 : pm_H} (SX : pl_S g b L xs) (hj : j + 6 ≤ L) (hL : L ≤ 384) (hk1 : pm_kd h x = 12) (R0 : pl_R h) (hf : lw_s4 (fun i => xs (j + i)) x m h = some h2) (kk : pm_G g 706 [(3, .int (Int32.ofNat j)), (2, .ref m), (1, .ref x), (0, .retAddr b)] [] h2 (pm_sz h2) (pm_us h2)) : pm_G g 262 [(3, .int (Int32.ofNat j)), (2, .ref m), (1, .ref x), (0, .retAddr b)] [] h (pm_sz h) (pm_us h) := by
  unfold lw_s4 at hf
  obtain ⟨r1, e1, hf⟩ := pm_bd hf
  obtain ⟨⟨hk2, R1⟩, hf⟩ := pm_if hf
  obtain ⟨r2, e2, hf⟩ := pm_bd hf
  obtain ⟨⟨he, R2⟩, hf⟩ := pm_if hf
  have hf := Option.some.inj hf
  subst hf
  refine pm_aload_n C dL_law_262 rfl rfl ?_
  refine pm_aloadT C dL_law_263 rfl rfl ?_
  refine pm_iload_n C dL_law_264 rfl rfl ?_
  refine pm_iconst (v := Int32.ofNat 1) C dL_law_265 (by decide) ?_
  refine pm_iadd C dL_law_266 ?_
  refine pl_sld (v := xs (j + 1)) C SX dL_law_267 (pl_ix 1 (by decide) hj hL).1 (by rw [(pl_ix 1 (by decide) hj hL).2]) ?_
  refine pm_callV (as := [.int (xs (j + 1))]) (st := []) C X dL_law_268 lnL_32 myX12_make viX12_make ⟨by decide, by decide⟩ rfl rfl hk1 (Nat.le_of_ble_eq_true rfl) (pl_1 (moX12_make e1) R1) (pl_2 (moX12_make e1) R1) (ctX12_make e1 ?_)
  show pm_G g 271 [(3, .int (Int32.ofNat j)), (2, .ref m), (1, .ref x), (0, .retAddr b)] [.int r1.1] r1.2 (pm_sz h + (pm_sz r1.2 - pm_sz h)) (pm_us h + (pm_us r1.2 - pm_us h))
  refine pl_go (moX12_make e1) ?_
  refine pm_aload_n C dL_law_271 rfl rfl ?_
  refine pm_aloadT C dL_law_272 rfl rfl ?_
  refine pm_iload_n C dL_law_273 rfl rfl ?_
  refine pm_iconst (v := Int32.ofNat 1) C dL_law_274 (by decide) ?_
  refine pm_iadd C dL_law_275 ?_
  refine pl_sld (v := xs (j + 1)) C SX dL_law_276 (pl_ix 1 (by decide) hj hL).1 (by rw [(pl_ix 1 (by decide) hj hL).2]) ?_
  refine pm_callV (as := [.int (xs (j + 1))]) (st := [.int r1.1]) C X dL_law_277 lnL_35 myX16_make viX16_make ⟨by decide, by decide⟩ rfl rfl hk2 (Nat.le_of_ble_eq_true rfl) (pl_1 (moX16_make e2) R2) (pl_2 (moX16_make e2) R2) (ctX16_make e2 ?_)
  show pm_G g 280 [(3, .int (Int32.ofNat j)), (2, .ref m), (1, .ref x), (0, .retAddr b)] [.int r2.1, .int r1.1] r2.2 (pm_sz r1.2 + (pm_sz r2.2 - pm_sz r1.2)) (pm_us r1.2 + (pm_us r2.2 - pm_us r1.2))
  refine pl_go (moX16_make e2) ?_
  refine pm_icmp_eq (tgt := 706) C dL_law_280 (by decide) (fun _ => kk) (fun c => absurd he c)

set_option maxRecDepth 100000 in
theorem lw_c5 {g : pm_Gm} {l : Launch} {G : pm_Gl} {Qr : Option Value → pm_H → Prop} (C : pm_C g code RL) (X : pm_X g l G mL_law 600002 7302232 Qr) {b L j x m : Nat} {xs : Nat → Int32} {h h2 : pm_H} (SX : pl_S g b L xs) (hj : j + 6 ≤ L) (hL : L ≤ 384) (hk1 : pm_kd h x = 12) (R0 : pl_R h) (hf : lw_s5 (fun i => xs (j + i)) x m h = some h2) (kk : pm_G g 706 [(3, .int (Int32.ofNat j)), (2, .ref m), (1, .ref x), (0, .retAddr b)] [] h2 (pm_sz h2) (pm_us h2)) : pm_G g 285 [(3, .int (Int32.ofNat j)), (2, .ref m), (1, .ref x), (0, .retAddr b)] [] h (pm_sz h) (pm_us h) := by
  unfold lw_s5 at hf
  obtain ⟨r1, e1, hf⟩ := pm_bd hf
  obtain ⟨⟨hk2, R1⟩, hf⟩ := pm_if hf
  obtain ⟨r2, e2, hf⟩ := pm_bd hf
  obtain ⟨⟨he, R2⟩, hf⟩ := pm_if hf
  have hf := Option.some.inj hf
  subst hf
  refine pm_aload_n C dL_law_285 rfl rfl ?_
  refine pm_aloadT C dL_law_286 rfl rfl ?_
  refine pm_iload_n C dL_law_287 rfl rfl ?_
  refine pm_iconst (v := Int32.ofNat 1) C dL_law_288 (by decide) ?_
  refine pm_iadd C dL_law_289 ?_
  refine pl_sld (v := xs (j + 1)) C SX dL_law_290 (pl_ix 1 (by decide) hj hL).1 (by rw [(pl_ix 1 (by decide) hj hL).2]) ?_
  refine pm_i2l C dL_law_291 ?_
  refine pm_bipush (v := 32) C dL_law_292 (by decide) ?_
  refine pm_lshl C dL_law_294 ?_
  refine pm_aloadT C dL_law_295 rfl rfl ?_
  refine pm_iload_n C dL_law_296 rfl rfl ?_
  refine pm_iconst (v := Int32.ofNat 2) C dL_law_297 (by decide) ?_
  refine pm_iadd C dL_law_298 ?_
  refine pl_sld (v := xs (j + 2)) C SX dL_law_299 (pl_ix 2 (by decide) hj hL).1 (by rw [(pl_ix 2 (by decide) hj hL).2]) ?_
  refine pm_i2l C dL_law_300 ?_
  refine pm_ldc2 C dL_law_301 cnL_36 ?_
  refine pm_land C dL_law_304 ?_
  refine pm_lor C dL_law_305 ?_
  refine pm_callV (as := [.long (((xs (j + 1)).toInt64 <<< ((32 : Int32).toInt64 &&& 63)) ||| ((xs (j + 2)).toInt64 &&& 4294967295))]) (st := []) C X dL_law_306 lnL_38 myX12_argument viX12_argument ⟨by decide, by decide⟩ rfl rfl hk1 (Nat.le_of_ble_eq_true rfl) R0.1 R0.2 (ctX12_argument e1 ?_)
  show pm_G g 309 [(3, .int (Int32.ofNat j)), (2, .ref m), (1, .ref x), (0, .retAddr b)] [.int r1.1] r1.2 (pm_sz h + 0) (pm_us h + 0)
  refine pl_goK (kpX12_argument e1) ?_
  refine pm_aload_n C dL_law_309 rfl rfl ?_
  refine pm_aloadT C dL_law_310 rfl rfl ?_
  refine pm_iload_n C dL_law_311 rfl rfl ?_
  refine pm_iconst (v := Int32.ofNat 1) C dL_law_312 (by decide) ?_
  refine pm_iadd C dL_law_313 ?_
  refine pl_sld (v := xs (j + 1)) C SX dL_law_314 (pl_ix 1 (by decide) hj hL).1 (by rw [(pl_ix 1 (by decide) hj hL).2]) ?_
  refine pm_i2l C dL_law_315 ?_
  refine pm_bipush (v := 32) C dL_law_316 (by decide) ?_
  refine pm_lshl C dL_law_318 ?_
  refine pm_aloadT C dL_law_319 rfl rfl ?_
  refine pm_iload_n C dL_law_320 rfl rfl ?_
  refine pm_iconst (v := Int32.ofNat 2) C dL_law_321 (by decide) ?_
  refine pm_iadd C dL_law_322 ?_
  refine pl_sld (v := xs (j + 2)) C SX dL_law_323 (pl_ix 2 (by decide) hj hL).1 (by rw [(pl_ix 2 (by decide) hj hL).2]) ?_
  refine pm_i2l C dL_law_324 ?_
  refine pm_ldc2 C dL_law_325 cnL_36 ?_
  refine pm_land C dL_law_328 ?_
  refine pm_lor C dL_law_329 ?_
  refine pm_callV (as := [.long (((xs (j + 1)).toInt64 <<< ((32 : Int32).toInt64 &&& 63)) ||| ((xs (j + 2)).toInt64 &&& 4294967295))]) (st := [.int r1.1]) C X dL_law_330 lnL_42 myX16_argument viX16_argument ⟨by decide, by decide⟩ rfl rfl hk2 (Nat.le_of_ble_eq_true rfl) R1.1 R1.2 (ctX16_argument e2 ?_)
  show pm_G g 333 [(3, .int (Int32.ofNat j)), (2, .ref m), (1, .ref x), (0, .retAddr b)] [.int r2.1, .int r1.1] r2.2 (pm_sz r1.2 + 0) (pm_us r1.2 + 0)
  refine pl_goK (kpX16_argument e2) ?_
  refine pm_icmp_eq (tgt := 706) C dL_law_333 (by decide) (fun _ => kk) (fun c => absurd he c)

set_option maxRecDepth 100000 in
theorem lw_c6 {g : pm_Gm} {l : Launch} {G : pm_Gl} {Qr : Option Value → pm_H → Prop} (C : pm_C g code RL) (X : pm_X g l G mL_law 600002 7302232 Qr) {b L j x m : Nat} {xs : Nat → Int32} {h h2 : pm_H} (SX : pl_S g b L xs) (hj : j + 6 ≤ L) (hL : L ≤ 384) (hk1 : pm_kd h x = 12) (R0 : pl_R h) (hf : lw_s6 (fun i => xs (j + i)) x m h = some h2) (kk : pm_G g 706 [(3, .int (Int32.ofNat j)), (2, .ref m), (1, .ref x), (0, .retAddr b)] [] h2 (pm_sz h2) (pm_us h2)) : pm_G g 338 [(3, .int (Int32.ofNat j)), (2, .ref m), (1, .ref x), (0, .retAddr b)] [] h (pm_sz h) (pm_us h) := by
  unfold lw_s6 at hf
  obtain ⟨r1, e1, hf⟩ := pm_bd hf
  obtain ⟨⟨hk2, R1⟩, hf⟩ := pm_if hf
  obtain ⟨r2, e2, hf⟩ := pm_bd hf
  obtain ⟨⟨he, R2⟩, hf⟩ := pm_if hf
  have hf := Option.some.inj hf
  subst hf
  refine pm_aload_n C dL_law_338 rfl rfl ?_
  refine pm_aloadT C dL_law_339 rfl rfl ?_
  refine pm_iload_n C dL_law_340 rfl rfl ?_
  refine pm_iconst (v := Int32.ofNat 1) C dL_law_341 (by decide) ?_
  refine pm_iadd C dL_law_342 ?_
  refine pl_sld (v := xs (j + 1)) C SX dL_law_343 (pl_ix 1 (by decide) hj hL).1 (by rw [(pl_ix 1 (by decide) hj hL).2]) ?_
  refine pm_aloadT C dL_law_344 rfl rfl ?_
  refine pm_iload_n C dL_law_345 rfl rfl ?_
  refine pm_iconst (v := Int32.ofNat 2) C dL_law_346 (by decide) ?_
  refine pm_iadd C dL_law_347 ?_
  refine pl_sld (v := xs (j + 2)) C SX dL_law_348 (pl_ix 2 (by decide) hj hL).1 (by rw [(pl_ix 2 (by decide) hj hL).2]) ?_
  refine pm_callV (as := [.int (xs (j + 1)), .int (xs (j + 2))]) (st := []) C X dL_law_349 lnL_43 myX12_call viX12_call ⟨by decide, by decide⟩ rfl rfl hk1 (Nat.le_of_ble_eq_true rfl) (pl_1 (moX12_call e1) R1) (pl_2 (moX12_call e1) R1) (ctX12_call e1 ?_)
  show pm_G g 352 [(3, .int (Int32.ofNat j)), (2, .ref m), (1, .ref x), (0, .retAddr b)] [.int r1.1] r1.2 (pm_sz h + (pm_sz r1.2 - pm_sz h)) (pm_us h + (pm_us r1.2 - pm_us h))
  refine pl_go (moX12_call e1) ?_
  refine pm_aload_n C dL_law_352 rfl rfl ?_
  refine pm_aloadT C dL_law_353 rfl rfl ?_
  refine pm_iload_n C dL_law_354 rfl rfl ?_
  refine pm_iconst (v := Int32.ofNat 1) C dL_law_355 (by decide) ?_
  refine pm_iadd C dL_law_356 ?_
  refine pl_sld (v := xs (j + 1)) C SX dL_law_357 (pl_ix 1 (by decide) hj hL).1 (by rw [(pl_ix 1 (by decide) hj hL).2]) ?_
  refine pm_aloadT C dL_law_358 rfl rfl ?_
  refine pm_iload_n C dL_law_359 rfl rfl ?_
  refine pm_iconst (v := Int32.ofNat 2) C dL_law_360 (by decide) ?_
  refine pm_iadd C dL_law_361 ?_
  refine pl_sld (v := xs (j + 2)) C SX dL_law_362 (pl_ix 2 (by decide) hj hL).1 (by rw [(pl_ix 2 (by decide) hj hL).2]) ?_
  refine pm_callV (as := [.int (xs (j + 1)), .int (xs (j + 2))]) (st := [.int r1.1]) C X dL_law_363 lnL_47 myX16_call viX16_call ⟨by decide, by decide⟩ rfl rfl hk2 (Nat.le_of_ble_eq_true rfl) R1.1 R1.2 (ctX16_call e2 ?_)
  show pm_G g 366 [(3, .int (Int32.ofNat j)), (2, .ref m), (1, .ref x), (0, .retAddr b)] [.int r2.1, .int r1.1] r2.2 (pm_sz r1.2 + 0) (pm_us r1.2 + 0)
  refine pl_goK (kpX16_call e2) ?_
  refine pm_icmp_eq (tgt := 706) C dL_law_366 (by decide) (fun _ => kk) (fun c => absurd he c)

set_option maxRecDepth 100000 in
theorem lw_c7 {g : pm_Gm} {l : Launch} {G : pm_Gl} {Qr : Option Value → pm_H → Prop} (C : pm_C g code RL) (X : pm_X g l G mL_law 600002 7302232 Qr) {b L j x m : Nat} {xs : Nat → Int32} {h h2 : pm_H} (SX : pl_S g b L xs) (hj : j + 6 ≤ L) (hL : L ≤ 384) (hk1 : pm_kd h x = 12) (R0 : pl_R h) (hf : lw_s7 (fun i => xs (j + i)) x m h = some h2) (kk : pm_G g 706 [(3, .int (Int32.ofNat j)), (2, .ref m), (1, .ref x), (0, .retAddr b)] [] h2 (pm_sz h2) (pm_us h2)) : pm_G g 371 [(3, .int (Int32.ofNat j)), (2, .ref m), (1, .ref x), (0, .retAddr b)] [] h (pm_sz h) (pm_us h) := by
  unfold lw_s7 at hf
  obtain ⟨r1, e1, hf⟩ := pm_bd hf
  obtain ⟨⟨hk2, R1⟩, hf⟩ := pm_if hf
  obtain ⟨r2, e2, hf⟩ := pm_bd hf
  obtain ⟨⟨he, R2⟩, hf⟩ := pm_if hf
  have hf := Option.some.inj hf
  subst hf
  refine pm_aload_n C dL_law_371 rfl rfl ?_
  refine pm_aloadT C dL_law_372 rfl rfl ?_
  refine pm_iload_n C dL_law_373 rfl rfl ?_
  refine pm_iconst (v := Int32.ofNat 1) C dL_law_374 (by decide) ?_
  refine pm_iadd C dL_law_375 ?_
  refine pl_sld (v := xs (j + 1)) C SX dL_law_376 (pl_ix 1 (by decide) hj hL).1 (by rw [(pl_ix 1 (by decide) hj hL).2]) ?_
  refine pm_callV (as := [.int (xs (j + 1))]) (st := []) C X dL_law_377 lnL_48 myX12_run viX12_run ⟨by decide, by decide⟩ rfl rfl hk1 (Nat.le_of_ble_eq_true rfl) (pl_1 (moX12_run e1) R1) (pl_2 (moX12_run e1) R1) (ctX12_run e1 ?_)
  show pm_G g 380 [(3, .int (Int32.ofNat j)), (2, .ref m), (1, .ref x), (0, .retAddr b)] [.int r1.1] r1.2 (pm_sz h + (pm_sz r1.2 - pm_sz h)) (pm_us h + (pm_us r1.2 - pm_us h))
  refine pl_go (moX12_run e1) ?_
  refine pm_aload_n C dL_law_380 rfl rfl ?_
  refine pm_aloadT C dL_law_381 rfl rfl ?_
  refine pm_iload_n C dL_law_382 rfl rfl ?_
  refine pm_iconst (v := Int32.ofNat 1) C dL_law_383 (by decide) ?_
  refine pm_iadd C dL_law_384 ?_
  refine pl_sld (v := xs (j + 1)) C SX dL_law_385 (pl_ix 1 (by decide) hj hL).1 (by rw [(pl_ix 1 (by decide) hj hL).2]) ?_
  refine pm_callV (as := [.int (xs (j + 1))]) (st := [.int r1.1]) C X dL_law_386 lnL_51 myX16_run viX16_run ⟨by decide, by decide⟩ rfl rfl hk2 (Nat.le_of_ble_eq_true rfl) R1.1 R1.2 (ctX16_run e2 ?_)
  show pm_G g 389 [(3, .int (Int32.ofNat j)), (2, .ref m), (1, .ref x), (0, .retAddr b)] [.int r2.1, .int r1.1] r2.2 (pm_sz r1.2 + 0) (pm_us r1.2 + 0)
  refine pl_goK (kpX16_run e2) ?_
  refine pm_icmp_eq (tgt := 706) C dL_law_389 (by decide) (fun _ => kk) (fun c => absurd he c)

set_option maxRecDepth 100000 in
theorem lw_c8 {g : pm_Gm} {l : Launch} {G : pm_Gl} {Qr : Option Value → pm_H → Prop} (C : pm_C g code RL) (X : pm_X g l G mL_law 600002 7302232 Qr) {b L j x m : Nat} {xs : Nat → Int32} {h h2 : pm_H} (SX : pl_S g b L xs) (hj : j + 6 ≤ L) (hL : L ≤ 384) (hk1 : pm_kd h x = 12) (R0 : pl_R h) (hf : lw_s8 (fun i => xs (j + i)) x m h = some h2) (kk : pm_G g 706 [(3, .int (Int32.ofNat j)), (2, .ref m), (1, .ref x), (0, .retAddr b)] [] h2 (pm_sz h2) (pm_us h2)) : pm_G g 394 [(3, .int (Int32.ofNat j)), (2, .ref m), (1, .ref x), (0, .retAddr b)] [] h (pm_sz h) (pm_us h) := by
  unfold lw_s8 at hf
  obtain ⟨r1, e1, hf⟩ := pm_bd hf
  obtain ⟨⟨hk2, R1⟩, hf⟩ := pm_if hf
  obtain ⟨r2, e2, hf⟩ := pm_bd hf
  obtain ⟨⟨he, R2⟩, hf⟩ := pm_if hf
  have hf := Option.some.inj hf
  subst hf
  refine pm_aload_n C dL_law_394 rfl rfl ?_
  refine pm_callV (as := []) (st := []) C X dL_law_395 lnL_52 myX12_give viX12_give ⟨by decide, by decide⟩ rfl rfl hk1 (Nat.le_of_ble_eq_true rfl) R0.1 R0.2 (ctX12_give e1 ?_)
  show pm_G g 398 [(3, .int (Int32.ofNat j)), (2, .ref m), (1, .ref x), (0, .retAddr b)] [.int r1.1] r1.2 (pm_sz h + 0) (pm_us h + 0)
  refine pl_goK (kpX12_give e1) ?_
  refine pm_aload_n C dL_law_398 rfl rfl ?_
  refine pm_callV (as := []) (st := [.int r1.1]) C X dL_law_399 lnL_56 myX16_give viX16_give ⟨by decide, by decide⟩ rfl rfl hk2 (Nat.le_of_ble_eq_true rfl) R1.1 R1.2 (ctX16_give e2 ?_)
  show pm_G g 402 [(3, .int (Int32.ofNat j)), (2, .ref m), (1, .ref x), (0, .retAddr b)] [.int r2.1, .int r1.1] r2.2 (pm_sz r1.2 + 0) (pm_us r1.2 + 0)
  refine pl_goK (kpX16_give e2) ?_
  refine pm_icmp_eq (tgt := 706) C dL_law_402 (by decide) (fun _ => kk) (fun c => absurd he c)

set_option maxRecDepth 100000 in
theorem lw_c9 {g : pm_Gm} {l : Launch} {G : pm_Gl} {Qr : Option Value → pm_H → Prop} (C : pm_C g code RL) (X : pm_X g l G mL_law 600002 7302232 Qr) {b L j x m : Nat} {xs : Nat → Int32} {h h2 : pm_H} (SX : pl_S g b L xs) (hj : j + 6 ≤ L) (hL : L ≤ 384) (hk1 : pm_kd h x = 12) (R0 : pl_R h) (hf : lw_s9 (fun i => xs (j + i)) x m h = some h2) (kk : pm_G g 706 [(3, .int (Int32.ofNat j)), (2, .ref m), (1, .ref x), (0, .retAddr b)] [] h2 (pm_sz h2) (pm_us h2)) : pm_G g 407 [(3, .int (Int32.ofNat j)), (2, .ref m), (1, .ref x), (0, .retAddr b)] [] h (pm_sz h) (pm_us h) := by
  unfold lw_s9 at hf
  obtain ⟨r1, e1, hf⟩ := pm_bd hf
  obtain ⟨⟨hk2, R1⟩, hf⟩ := pm_if hf
  obtain ⟨r2, e2, hf⟩ := pm_bd hf
  obtain ⟨⟨he, R2⟩, hf⟩ := pm_if hf
  have hf := Option.some.inj hf
  subst hf
  refine pm_aload_n C dL_law_407 rfl rfl ?_
  refine pm_callV (as := []) (st := []) C X dL_law_408 lnL_57 myX12_answer viX12_answer ⟨by decide, by decide⟩ rfl rfl hk1 (Nat.le_of_ble_eq_true rfl) (pl_1 (moX12_answer e1) R1) (pl_2 (moX12_answer e1) R1) (ctX12_answer e1 ?_)
  show pm_G g 411 [(3, .int (Int32.ofNat j)), (2, .ref m), (1, .ref x), (0, .retAddr b)] [.int r1.1] r1.2 (pm_sz h + (pm_sz r1.2 - pm_sz h)) (pm_us h + (pm_us r1.2 - pm_us h))
  refine pl_go (moX12_answer e1) ?_
  refine pm_aload_n C dL_law_411 rfl rfl ?_
  refine pm_callV (as := []) (st := [.int r1.1]) C X dL_law_412 lnL_60 myX16_answer viX16_answer ⟨by decide, by decide⟩ rfl rfl hk2 (Nat.le_of_ble_eq_true rfl) R1.1 R1.2 (ctX16_answer e2 ?_)
  show pm_G g 415 [(3, .int (Int32.ofNat j)), (2, .ref m), (1, .ref x), (0, .retAddr b)] [.int r2.1, .int r1.1] r2.2 (pm_sz r1.2 + 0) (pm_us r1.2 + 0)
  refine pl_goK (kpX16_answer e2) ?_
  refine pm_icmp_eq (tgt := 706) C dL_law_415 (by decide) (fun _ => kk) (fun c => absurd he c)

set_option maxRecDepth 100000 in
theorem lw_c10 {g : pm_Gm} {l : Launch} {G : pm_Gl} {Qr : Option Value → pm_H → Prop} (C : pm_C g code RL) (X : pm_X g l G mL_law 600002 7302232 Qr) {b L j x m : Nat} {xs : Nat → Int32} {h h2 : pm_H} (SX : pl_S g b L xs) (hj : j + 6 ≤ L) (hL : L ≤ 384) (hk1 : pm_kd h x = 12) (R0 : pl_R h) (hf : lw_s10 (fun i => xs (j + i)) x m h = some h2) (kk : pm_G g 706 [(3, .int (Int32.ofNat j)), (2, .ref m), (1, .ref x), (0, .retAddr b)] [] h2 (pm_sz h2) (pm_us h2)) : pm_G g 420 [(3, .int (Int32.ofNat j)), (2, .ref m), (1, .ref x), (0, .retAddr b)] [] h (pm_sz h) (pm_us h) := by
  unfold lw_s10 at hf
  obtain ⟨r1, e1, hf⟩ := pm_bd hf
  obtain ⟨⟨hk2, R1⟩, hf⟩ := pm_if hf
  obtain ⟨r2, e2, hf⟩ := pm_bd hf
  obtain ⟨⟨he, R2⟩, hf⟩ := pm_if hf
  have hf := Option.some.inj hf
  subst hf
  refine pm_aload_n C dL_law_420 rfl rfl ?_
  refine pm_aloadT C dL_law_421 rfl rfl ?_
  refine pm_iload_n C dL_law_422 rfl rfl ?_
  refine pm_iconst (v := Int32.ofNat 1) C dL_law_423 (by decide) ?_
  refine pm_iadd C dL_law_424 ?_
  refine pl_sld (v := xs (j + 1)) C SX dL_law_425 (pl_ix 1 (by decide) hj hL).1 (by rw [(pl_ix 1 (by decide) hj hL).2]) ?_
  refine pm_callV (as := [.int (xs (j + 1))]) (st := []) C X dL_law_426 lnL_61 myX12_state viX12_state ⟨by decide, by decide⟩ rfl rfl hk1 (Nat.le_of_ble_eq_true rfl) R0.1 R0.2 (ctX12_state e1 ?_)
  show pm_G g 429 [(3, .int (Int32.ofNat j)), (2, .ref m), (1, .ref x), (0, .retAddr b)] [.int r1] h (pm_sz h + 0) (pm_us h + 0)
  refine pm_aload_n C dL_law_429 rfl rfl ?_
  refine pm_aloadT C dL_law_430 rfl rfl ?_
  refine pm_iload_n C dL_law_431 rfl rfl ?_
  refine pm_iconst (v := Int32.ofNat 1) C dL_law_432 (by decide) ?_
  refine pm_iadd C dL_law_433 ?_
  refine pl_sld (v := xs (j + 1)) C SX dL_law_434 (pl_ix 1 (by decide) hj hL).1 (by rw [(pl_ix 1 (by decide) hj hL).2]) ?_
  refine pm_callV (as := [.int (xs (j + 1))]) (st := [.int r1]) C X dL_law_435 lnL_64 myX16_state viX16_state ⟨by decide, by decide⟩ rfl rfl hk2 (Nat.le_of_ble_eq_true rfl) R1.1 R1.2 (ctX16_state e2 ?_)
  show pm_G g 438 [(3, .int (Int32.ofNat j)), (2, .ref m), (1, .ref x), (0, .retAddr b)] [.int r2, .int r1] h (pm_sz h + 0) (pm_us h + 0)
  refine pm_icmp_eq (tgt := 706) C dL_law_438 (by decide) (fun _ => kk) (fun c => absurd he c)

set_option maxRecDepth 100000 in
theorem lw_c11 {g : pm_Gm} {l : Launch} {G : pm_Gl} {Qr : Option Value → pm_H → Prop} (C : pm_C g code RL) (X : pm_X g l G mL_law 600002 7302232 Qr) {b L j x m : Nat} {xs : Nat → Int32} {h h2 : pm_H} (SX : pl_S g b L xs) (hj : j + 6 ≤ L) (hL : L ≤ 384) (hk1 : pm_kd h x = 12) (R0 : pl_R h) (hf : lw_s11 (fun i => xs (j + i)) x m h = some h2) (kk : pm_G g 706 [(3, .int (Int32.ofNat j)), (2, .ref m), (1, .ref x), (0, .retAddr b)] [] h2 (pm_sz h2) (pm_us h2)) : pm_G g 443 [(3, .int (Int32.ofNat j)), (2, .ref m), (1, .ref x), (0, .retAddr b)] [] h (pm_sz h) (pm_us h) := by
  unfold lw_s11 at hf
  obtain ⟨r1, e1, hf⟩ := pm_bd hf
  obtain ⟨⟨hk2, R1⟩, hf⟩ := pm_if hf
  obtain ⟨r2, e2, hf⟩ := pm_bd hf
  obtain ⟨⟨he, R2⟩, hf⟩ := pm_if hf
  have hf := Option.some.inj hf
  subst hf
  refine pm_aload_n C dL_law_443 rfl rfl ?_
  refine pm_aloadT C dL_law_444 rfl rfl ?_
  refine pm_iload_n C dL_law_445 rfl rfl ?_
  refine pm_iconst (v := Int32.ofNat 1) C dL_law_446 (by decide) ?_
  refine pm_iadd C dL_law_447 ?_
  refine pl_sld (v := xs (j + 1)) C SX dL_law_448 (pl_ix 1 (by decide) hj hL).1 (by rw [(pl_ix 1 (by decide) hj hL).2]) ?_
  refine pm_callV (as := [.int (xs (j + 1))]) (st := []) C X dL_law_449 lnL_65 myX12_value viX12_value ⟨by decide, by decide⟩ rfl rfl hk1 (Nat.le_of_ble_eq_true rfl) R0.1 R0.2 (ctX12_value e1 ?_)
  show pm_G g 452 [(3, .int (Int32.ofNat j)), (2, .ref m), (1, .ref x), (0, .retAddr b)] [.long r1] h (pm_sz h + 0) (pm_us h + 0)
  refine pm_aload_n C dL_law_452 rfl rfl ?_
  refine pm_aloadT C dL_law_453 rfl rfl ?_
  refine pm_iload_n C dL_law_454 rfl rfl ?_
  refine pm_iconst (v := Int32.ofNat 1) C dL_law_455 (by decide) ?_
  refine pm_iadd C dL_law_456 ?_
  refine pl_sld (v := xs (j + 1)) C SX dL_law_457 (pl_ix 1 (by decide) hj hL).1 (by rw [(pl_ix 1 (by decide) hj hL).2]) ?_
  refine pm_callV (as := [.int (xs (j + 1))]) (st := [.long r1]) C X dL_law_458 lnL_69 myX16_value viX16_value ⟨by decide, by decide⟩ rfl rfl hk2 (Nat.le_of_ble_eq_true rfl) R1.1 R1.2 (ctX16_value e2 ?_)
  show pm_G g 461 [(3, .int (Int32.ofNat j)), (2, .ref m), (1, .ref x), (0, .retAddr b)] [.long r2, .long r1] h (pm_sz h + 0) (pm_us h + 0)
  refine pm_lcmp C dL_law_461 ?_
  refine pm_if_eq (tgt := 706) C dL_law_462 (by decide) (fun _ => kk) (fun c => absurd ((pm_lg_eq _ _).mpr he) c)

set_option maxRecDepth 100000 in
theorem lw_c12 {g : pm_Gm} {l : Launch} {G : pm_Gl} {Qr : Option Value → pm_H → Prop} (C : pm_C g code RL) (X : pm_X g l G mL_law 600002 7302232 Qr) {b L j x m : Nat} {xs : Nat → Int32} {h h2 : pm_H} (SX : pl_S g b L xs) (hj : j + 6 ≤ L) (hL : L ≤ 384) (hk1 : pm_kd h x = 12) (R0 : pl_R h) (hf : lw_s12 (fun i => xs (j + i)) x m h = some h2) (kk : pm_G g 706 [(3, .int (Int32.ofNat j)), (2, .ref m), (1, .ref x), (0, .retAddr b)] [] h2 (pm_sz h2) (pm_us h2)) : pm_G g 467 [(3, .int (Int32.ofNat j)), (2, .ref m), (1, .ref x), (0, .retAddr b)] [] h (pm_sz h) (pm_us h) := by
  unfold lw_s12 at hf
  obtain ⟨r1, e1, hf⟩ := pm_bd hf
  obtain ⟨⟨hk2, R1⟩, hf⟩ := pm_if hf
  obtain ⟨r2, e2, hf⟩ := pm_bd hf
  obtain ⟨⟨he, R2⟩, hf⟩ := pm_if hf
  have hf := Option.some.inj hf
  subst hf
  refine pm_aload_n C dL_law_467 rfl rfl ?_
  refine pm_aloadT C dL_law_468 rfl rfl ?_
  refine pm_iload_n C dL_law_469 rfl rfl ?_
  refine pm_iconst (v := Int32.ofNat 1) C dL_law_470 (by decide) ?_
  refine pm_iadd C dL_law_471 ?_
  refine pl_sld (v := xs (j + 1)) C SX dL_law_472 (pl_ix 1 (by decide) hj hL).1 (by rw [(pl_ix 1 (by decide) hj hL).2]) ?_
  refine pm_callV (as := [.int (xs (j + 1))]) (st := []) C X dL_law_473 lnL_70 myX12_tier viX12_tier ⟨by decide, by decide⟩ rfl rfl hk1 (Nat.le_of_ble_eq_true rfl) R0.1 R0.2 (ctX12_tier e1 ?_)
  show pm_G g 476 [(3, .int (Int32.ofNat j)), (2, .ref m), (1, .ref x), (0, .retAddr b)] [.int r1.1] r1.2 (pm_sz h + 0) (pm_us h + 0)
  refine pl_goK (kpX12_tier e1) ?_
  refine pm_aload_n C dL_law_476 rfl rfl ?_
  refine pm_aloadT C dL_law_477 rfl rfl ?_
  refine pm_iload_n C dL_law_478 rfl rfl ?_
  refine pm_iconst (v := Int32.ofNat 1) C dL_law_479 (by decide) ?_
  refine pm_iadd C dL_law_480 ?_
  refine pl_sld (v := xs (j + 1)) C SX dL_law_481 (pl_ix 1 (by decide) hj hL).1 (by rw [(pl_ix 1 (by decide) hj hL).2]) ?_
  refine pm_callV (as := [.int (xs (j + 1))]) (st := [.int r1.1]) C X dL_law_482 lnL_73 myX16_tier viX16_tier ⟨by decide, by decide⟩ rfl rfl hk2 (Nat.le_of_ble_eq_true rfl) R1.1 R1.2 (ctX16_tier e2 ?_)
  show pm_G g 485 [(3, .int (Int32.ofNat j)), (2, .ref m), (1, .ref x), (0, .retAddr b)] [.int r2.1, .int r1.1] r2.2 (pm_sz r1.2 + 0) (pm_us r1.2 + 0)
  refine pl_goK (kpX16_tier e2) ?_
  refine pm_icmp_eq (tgt := 706) C dL_law_485 (by decide) (fun _ => kk) (fun c => absurd he c)

set_option maxRecDepth 100000 in
theorem lw_c13 {g : pm_Gm} {l : Launch} {G : pm_Gl} {Qr : Option Value → pm_H → Prop} (C : pm_C g code RL) (X : pm_X g l G mL_law 600002 7302232 Qr) {b L j x m : Nat} {xs : Nat → Int32} {h h2 : pm_H} (SX : pl_S g b L xs) (hj : j + 6 ≤ L) (hL : L ≤ 384) (hk1 : pm_kd h x = 12) (R0 : pl_R h) (hf : lw_s13 (fun i => xs (j + i)) x m h = some h2) (kk : pm_G g 706 [(3, .int (Int32.ofNat j)), (2, .ref m), (1, .ref x), (0, .retAddr b)] [] h2 (pm_sz h2) (pm_us h2)) : pm_G g 490 [(3, .int (Int32.ofNat j)), (2, .ref m), (1, .ref x), (0, .retAddr b)] [] h (pm_sz h) (pm_us h) := by
  unfold lw_s13 at hf
  obtain ⟨r1, e1, hf⟩ := pm_bd hf
  obtain ⟨⟨hk2, R1⟩, hf⟩ := pm_if hf
  obtain ⟨r2, e2, hf⟩ := pm_bd hf
  obtain ⟨⟨he, R2⟩, hf⟩ := pm_if hf
  have hf := Option.some.inj hf
  subst hf
  refine pm_aload_n C dL_law_490 rfl rfl ?_
  refine pm_aloadT C dL_law_491 rfl rfl ?_
  refine pm_iload_n C dL_law_492 rfl rfl ?_
  refine pm_iconst (v := Int32.ofNat 1) C dL_law_493 (by decide) ?_
  refine pm_iadd C dL_law_494 ?_
  refine pl_sld (v := xs (j + 1)) C SX dL_law_495 (pl_ix 1 (by decide) hj hL).1 (by rw [(pl_ix 1 (by decide) hj hL).2]) ?_
  refine pm_aloadT C dL_law_496 rfl rfl ?_
  refine pm_iload_n C dL_law_497 rfl rfl ?_
  refine pm_iconst (v := Int32.ofNat 2) C dL_law_498 (by decide) ?_
  refine pm_iadd C dL_law_499 ?_
  refine pl_sld (v := xs (j + 2)) C SX dL_law_500 (pl_ix 2 (by decide) hj hL).1 (by rw [(pl_ix 2 (by decide) hj hL).2]) ?_
  refine pm_aloadT C dL_law_501 rfl rfl ?_
  refine pm_iload_n C dL_law_502 rfl rfl ?_
  refine pm_iconst (v := Int32.ofNat 3) C dL_law_503 (by decide) ?_
  refine pm_iadd C dL_law_504 ?_
  refine pl_sld (v := xs (j + 3)) C SX dL_law_505 (pl_ix 3 (by decide) hj hL).1 (by rw [(pl_ix 3 (by decide) hj hL).2]) ?_
  refine pm_callV (as := [.int (xs (j + 1)), .int (xs (j + 2)), .int (xs (j + 3))]) (st := []) C X dL_law_506 lnL_74 myX12_export viX12_export ⟨by decide, by decide⟩ rfl rfl hk1 (Nat.le_of_ble_eq_true rfl) R0.1 R0.2 (ctX12_export e1 ?_)
  show pm_G g 509 [(3, .int (Int32.ofNat j)), (2, .ref m), (1, .ref x), (0, .retAddr b)] [.int r1] h (pm_sz h + 0) (pm_us h + 0)
  refine pm_aload_n C dL_law_509 rfl rfl ?_
  refine pm_aloadT C dL_law_510 rfl rfl ?_
  refine pm_iload_n C dL_law_511 rfl rfl ?_
  refine pm_iconst (v := Int32.ofNat 1) C dL_law_512 (by decide) ?_
  refine pm_iadd C dL_law_513 ?_
  refine pl_sld (v := xs (j + 1)) C SX dL_law_514 (pl_ix 1 (by decide) hj hL).1 (by rw [(pl_ix 1 (by decide) hj hL).2]) ?_
  refine pm_aloadT C dL_law_515 rfl rfl ?_
  refine pm_iload_n C dL_law_516 rfl rfl ?_
  refine pm_iconst (v := Int32.ofNat 2) C dL_law_517 (by decide) ?_
  refine pm_iadd C dL_law_518 ?_
  refine pl_sld (v := xs (j + 2)) C SX dL_law_519 (pl_ix 2 (by decide) hj hL).1 (by rw [(pl_ix 2 (by decide) hj hL).2]) ?_
  refine pm_aloadT C dL_law_520 rfl rfl ?_
  refine pm_iload_n C dL_law_521 rfl rfl ?_
  refine pm_iconst (v := Int32.ofNat 3) C dL_law_522 (by decide) ?_
  refine pm_iadd C dL_law_523 ?_
  refine pl_sld (v := xs (j + 3)) C SX dL_law_524 (pl_ix 3 (by decide) hj hL).1 (by rw [(pl_ix 3 (by decide) hj hL).2]) ?_
  refine pm_callV (as := [.int (xs (j + 1)), .int (xs (j + 2)), .int (xs (j + 3))]) (st := [.int r1]) C X dL_law_525 lnL_78 myX16_export viX16_export ⟨by decide, by decide⟩ rfl rfl hk2 (Nat.le_of_ble_eq_true rfl) R1.1 R1.2 (ctX16_export e2 ?_)
  show pm_G g 528 [(3, .int (Int32.ofNat j)), (2, .ref m), (1, .ref x), (0, .retAddr b)] [.int r2, .int r1] h (pm_sz h + 0) (pm_us h + 0)
  refine pm_icmp_eq (tgt := 706) C dL_law_528 (by decide) (fun _ => kk) (fun c => absurd he c)

set_option maxRecDepth 100000 in
theorem lw_c14 {g : pm_Gm} {l : Launch} {G : pm_Gl} {Qr : Option Value → pm_H → Prop} (C : pm_C g code RL) (X : pm_X g l G mL_law 600002 7302232 Qr) {b L j x m : Nat} {xs : Nat → Int32} {h h2 : pm_H} (SX : pl_S g b L xs) (hj : j + 6 ≤ L) (hL : L ≤ 384) (hk1 : pm_kd h x = 12) (R0 : pl_R h) (hf : lw_s14 (fun i => xs (j + i)) x m h = some h2) (kk : pm_G g 706 [(3, .int (Int32.ofNat j)), (2, .ref m), (1, .ref x), (0, .retAddr b)] [] h2 (pm_sz h2) (pm_us h2)) : pm_G g 533 [(3, .int (Int32.ofNat j)), (2, .ref m), (1, .ref x), (0, .retAddr b)] [] h (pm_sz h) (pm_us h) := by
  unfold lw_s14 at hf
  obtain ⟨r1, e1, hf⟩ := pm_bd hf
  obtain ⟨⟨hk2, R1⟩, hf⟩ := pm_if hf
  obtain ⟨r2, e2, hf⟩ := pm_bd hf
  obtain ⟨⟨he, R2⟩, hf⟩ := pm_if hf
  have hf := Option.some.inj hf
  subst hf
  refine pm_aload_n C dL_law_533 rfl rfl ?_
  refine pm_aloadT C dL_law_534 rfl rfl ?_
  refine pm_iload_n C dL_law_535 rfl rfl ?_
  refine pm_iconst (v := Int32.ofNat 1) C dL_law_536 (by decide) ?_
  refine pm_iadd C dL_law_537 ?_
  refine pl_sld (v := xs (j + 1)) C SX dL_law_538 (pl_ix 1 (by decide) hj hL).1 (by rw [(pl_ix 1 (by decide) hj hL).2]) ?_
  refine pm_aloadT C dL_law_539 rfl rfl ?_
  refine pm_iload_n C dL_law_540 rfl rfl ?_
  refine pm_iconst (v := Int32.ofNat 2) C dL_law_541 (by decide) ?_
  refine pm_iadd C dL_law_542 ?_
  refine pl_sld (v := xs (j + 2)) C SX dL_law_543 (pl_ix 2 (by decide) hj hL).1 (by rw [(pl_ix 2 (by decide) hj hL).2]) ?_
  refine pm_aloadT C dL_law_544 rfl rfl ?_
  refine pm_iload_n C dL_law_545 rfl rfl ?_
  refine pm_iconst (v := Int32.ofNat 3) C dL_law_546 (by decide) ?_
  refine pm_iadd C dL_law_547 ?_
  refine pl_sld (v := xs (j + 3)) C SX dL_law_548 (pl_ix 3 (by decide) hj hL).1 (by rw [(pl_ix 3 (by decide) hj hL).2]) ?_
  refine pm_callV (as := [.int (xs (j + 1)), .int (xs (j + 2)), .int (xs (j + 3))]) (st := []) C X dL_law_549 lnL_79 myX12_memory viX12_memory ⟨by decide, by decide⟩ rfl rfl hk1 (Nat.le_of_ble_eq_true rfl) R0.1 R0.2 (ctX12_memory e1 ?_)
  show pm_G g 552 [(3, .int (Int32.ofNat j)), (2, .ref m), (1, .ref x), (0, .retAddr b)] [.int r1] h (pm_sz h + 0) (pm_us h + 0)
  refine pm_aload_n C dL_law_552 rfl rfl ?_
  refine pm_aloadT C dL_law_553 rfl rfl ?_
  refine pm_iload_n C dL_law_554 rfl rfl ?_
  refine pm_iconst (v := Int32.ofNat 1) C dL_law_555 (by decide) ?_
  refine pm_iadd C dL_law_556 ?_
  refine pl_sld (v := xs (j + 1)) C SX dL_law_557 (pl_ix 1 (by decide) hj hL).1 (by rw [(pl_ix 1 (by decide) hj hL).2]) ?_
  refine pm_aloadT C dL_law_558 rfl rfl ?_
  refine pm_iload_n C dL_law_559 rfl rfl ?_
  refine pm_iconst (v := Int32.ofNat 2) C dL_law_560 (by decide) ?_
  refine pm_iadd C dL_law_561 ?_
  refine pl_sld (v := xs (j + 2)) C SX dL_law_562 (pl_ix 2 (by decide) hj hL).1 (by rw [(pl_ix 2 (by decide) hj hL).2]) ?_
  refine pm_aloadT C dL_law_563 rfl rfl ?_
  refine pm_iload_n C dL_law_564 rfl rfl ?_
  refine pm_iconst (v := Int32.ofNat 3) C dL_law_565 (by decide) ?_
  refine pm_iadd C dL_law_566 ?_
  refine pl_sld (v := xs (j + 3)) C SX dL_law_567 (pl_ix 3 (by decide) hj hL).1 (by rw [(pl_ix 3 (by decide) hj hL).2]) ?_
  refine pm_callV (as := [.int (xs (j + 1)), .int (xs (j + 2)), .int (xs (j + 3))]) (st := [.int r1]) C X dL_law_568 lnL_82 myX16_memory viX16_memory ⟨by decide, by decide⟩ rfl rfl hk2 (Nat.le_of_ble_eq_true rfl) R1.1 R1.2 (ctX16_memory e2 ?_)
  show pm_G g 571 [(3, .int (Int32.ofNat j)), (2, .ref m), (1, .ref x), (0, .retAddr b)] [.int r2, .int r1] h (pm_sz h + 0) (pm_us h + 0)
  refine pm_icmp_eq (tgt := 706) C dL_law_571 (by decide) (fun _ => kk) (fun c => absurd he c)

set_option maxRecDepth 100000 in
theorem lw_c15 {g : pm_Gm} {l : Launch} {G : pm_Gl} {Qr : Option Value → pm_H → Prop} (C : pm_C g code RL) (X : pm_X g l G mL_law 600002 7302232 Qr) {b L j x m : Nat} {xs : Nat → Int32} {h h2 : pm_H} (SX : pl_S g b L xs) (hj : j + 6 ≤ L) (hL : L ≤ 384) (hk1 : pm_kd h x = 12) (R0 : pl_R h) (hf : lw_s15 (fun i => xs (j + i)) x m h = some h2) (kk : pm_G g 706 [(3, .int (Int32.ofNat j)), (2, .ref m), (1, .ref x), (0, .retAddr b)] [] h2 (pm_sz h2) (pm_us h2)) : pm_G g 576 [(3, .int (Int32.ofNat j)), (2, .ref m), (1, .ref x), (0, .retAddr b)] [] h (pm_sz h) (pm_us h) := by
  unfold lw_s15 at hf
  obtain ⟨r1, e1, hf⟩ := pm_bd hf
  obtain ⟨⟨hk2, R1⟩, hf⟩ := pm_if hf
  obtain ⟨r2, e2, hf⟩ := pm_bd hf
  obtain ⟨⟨he, R2⟩, hf⟩ := pm_if hf
  have hf := Option.some.inj hf
  subst hf
  refine pm_aload_n C dL_law_576 rfl rfl ?_
  refine pm_aloadT C dL_law_577 rfl rfl ?_
  refine pm_iload_n C dL_law_578 rfl rfl ?_
  refine pm_iconst (v := Int32.ofNat 1) C dL_law_579 (by decide) ?_
  refine pm_iadd C dL_law_580 ?_
  refine pl_sld (v := xs (j + 1)) C SX dL_law_581 (pl_ix 1 (by decide) hj hL).1 (by rw [(pl_ix 1 (by decide) hj hL).2]) ?_
  refine pm_aloadT C dL_law_582 rfl rfl ?_
  refine pm_iload_n C dL_law_583 rfl rfl ?_
  refine pm_iconst (v := Int32.ofNat 2) C dL_law_584 (by decide) ?_
  refine pm_iadd C dL_law_585 ?_
  refine pl_sld (v := xs (j + 2)) C SX dL_law_586 (pl_ix 2 (by decide) hj hL).1 (by rw [(pl_ix 2 (by decide) hj hL).2]) ?_
  refine pm_aloadT C dL_law_587 rfl rfl ?_
  refine pm_iload_n C dL_law_588 rfl rfl ?_
  refine pm_iconst (v := Int32.ofNat 3) C dL_law_589 (by decide) ?_
  refine pm_iadd C dL_law_590 ?_
  refine pl_sld (v := xs (j + 3)) C SX dL_law_591 (pl_ix 3 (by decide) hj hL).1 (by rw [(pl_ix 3 (by decide) hj hL).2]) ?_
  refine pm_aloadT C dL_law_592 rfl rfl ?_
  refine pm_iload_n C dL_law_593 rfl rfl ?_
  refine pm_iconst (v := Int32.ofNat 4) C dL_law_594 (by decide) ?_
  refine pm_iadd C dL_law_595 ?_
  refine pl_sld (v := xs (j + 4)) C SX dL_law_596 (pl_ix 4 (by decide) hj hL).1 (by rw [(pl_ix 4 (by decide) hj hL).2]) ?_
  refine pm_callV (as := [.int (xs (j + 1)), .int (xs (j + 2)), .int (xs (j + 3)), .int (xs (j + 4))]) (st := []) C X dL_law_597 lnL_83 myX12_poke viX12_poke ⟨by decide, by decide⟩ rfl rfl hk1 (Nat.le_of_ble_eq_true rfl) R0.1 R0.2 (ctX12_poke e1 ?_)
  show pm_G g 600 [(3, .int (Int32.ofNat j)), (2, .ref m), (1, .ref x), (0, .retAddr b)] [.int r1.1] r1.2 (pm_sz h + 0) (pm_us h + 0)
  refine pl_goK (kpX12_poke e1) ?_
  refine pm_aload_n C dL_law_600 rfl rfl ?_
  refine pm_aloadT C dL_law_601 rfl rfl ?_
  refine pm_iload_n C dL_law_602 rfl rfl ?_
  refine pm_iconst (v := Int32.ofNat 1) C dL_law_603 (by decide) ?_
  refine pm_iadd C dL_law_604 ?_
  refine pl_sld (v := xs (j + 1)) C SX dL_law_605 (pl_ix 1 (by decide) hj hL).1 (by rw [(pl_ix 1 (by decide) hj hL).2]) ?_
  refine pm_aloadT C dL_law_606 rfl rfl ?_
  refine pm_iload_n C dL_law_607 rfl rfl ?_
  refine pm_iconst (v := Int32.ofNat 2) C dL_law_608 (by decide) ?_
  refine pm_iadd C dL_law_609 ?_
  refine pl_sld (v := xs (j + 2)) C SX dL_law_610 (pl_ix 2 (by decide) hj hL).1 (by rw [(pl_ix 2 (by decide) hj hL).2]) ?_
  refine pm_aloadT C dL_law_611 rfl rfl ?_
  refine pm_iload_n C dL_law_612 rfl rfl ?_
  refine pm_iconst (v := Int32.ofNat 3) C dL_law_613 (by decide) ?_
  refine pm_iadd C dL_law_614 ?_
  refine pl_sld (v := xs (j + 3)) C SX dL_law_615 (pl_ix 3 (by decide) hj hL).1 (by rw [(pl_ix 3 (by decide) hj hL).2]) ?_
  refine pm_aloadT C dL_law_616 rfl rfl ?_
  refine pm_iload_n C dL_law_617 rfl rfl ?_
  refine pm_iconst (v := Int32.ofNat 4) C dL_law_618 (by decide) ?_
  refine pm_iadd C dL_law_619 ?_
  refine pl_sld (v := xs (j + 4)) C SX dL_law_620 (pl_ix 4 (by decide) hj hL).1 (by rw [(pl_ix 4 (by decide) hj hL).2]) ?_
  refine pm_callV (as := [.int (xs (j + 1)), .int (xs (j + 2)), .int (xs (j + 3)), .int (xs (j + 4))]) (st := [.int r1.1]) C X dL_law_621 lnL_87 myX16_poke viX16_poke ⟨by decide, by decide⟩ rfl rfl hk2 (Nat.le_of_ble_eq_true rfl) R1.1 R1.2 (ctX16_poke e2 ?_)
  show pm_G g 624 [(3, .int (Int32.ofNat j)), (2, .ref m), (1, .ref x), (0, .retAddr b)] [.int r2.1, .int r1.1] r2.2 (pm_sz r1.2 + 0) (pm_us r1.2 + 0)
  refine pl_goK (kpX16_poke e2) ?_
  refine pm_icmp_eq (tgt := 706) C dL_law_624 (by decide) (fun _ => kk) (fun c => absurd he c)

set_option maxRecDepth 100000 in
theorem lw_c16 {g : pm_Gm} {l : Launch} {G : pm_Gl} {Qr : Option Value → pm_H → Prop} (C : pm_C g code RL) (X : pm_X g l G mL_law 600002 7302232 Qr) {b L j x m : Nat} {xs : Nat → Int32} {h h2 : pm_H} (SX : pl_S g b L xs) (hj : j + 6 ≤ L) (hL : L ≤ 384) (hk1 : pm_kd h x = 12) (R0 : pl_R h) (hf : lw_s16 (fun i => xs (j + i)) x m h = some h2) (kk : pm_G g 706 [(3, .int (Int32.ofNat j)), (2, .ref m), (1, .ref x), (0, .retAddr b)] [] h2 (pm_sz h2) (pm_us h2)) : pm_G g 629 [(3, .int (Int32.ofNat j)), (2, .ref m), (1, .ref x), (0, .retAddr b)] [] h (pm_sz h) (pm_us h) := by
  unfold lw_s16 at hf
  obtain ⟨r1, e1, hf⟩ := pm_bd hf
  obtain ⟨⟨hk2, R1⟩, hf⟩ := pm_if hf
  obtain ⟨r2, e2, hf⟩ := pm_bd hf
  obtain ⟨⟨he, R2⟩, hf⟩ := pm_if hf
  have hf := Option.some.inj hf
  subst hf
  refine pm_aload_n C dL_law_629 rfl rfl ?_
  refine pm_aloadT C dL_law_630 rfl rfl ?_
  refine pm_iload_n C dL_law_631 rfl rfl ?_
  refine pm_iconst (v := Int32.ofNat 1) C dL_law_632 (by decide) ?_
  refine pm_iadd C dL_law_633 ?_
  refine pl_sld (v := xs (j + 1)) C SX dL_law_634 (pl_ix 1 (by decide) hj hL).1 (by rw [(pl_ix 1 (by decide) hj hL).2]) ?_
  refine pm_aloadT C dL_law_635 rfl rfl ?_
  refine pm_iload_n C dL_law_636 rfl rfl ?_
  refine pm_iconst (v := Int32.ofNat 2) C dL_law_637 (by decide) ?_
  refine pm_iadd C dL_law_638 ?_
  refine pl_sld (v := xs (j + 2)) C SX dL_law_639 (pl_ix 2 (by decide) hj hL).1 (by rw [(pl_ix 2 (by decide) hj hL).2]) ?_
  refine pm_aloadT C dL_law_640 rfl rfl ?_
  refine pm_iload_n C dL_law_641 rfl rfl ?_
  refine pm_iconst (v := Int32.ofNat 3) C dL_law_642 (by decide) ?_
  refine pm_iadd C dL_law_643 ?_
  refine pl_sld (v := xs (j + 3)) C SX dL_law_644 (pl_ix 3 (by decide) hj hL).1 (by rw [(pl_ix 3 (by decide) hj hL).2]) ?_
  refine pm_callV (as := [.int (xs (j + 1)), .int (xs (j + 2)), .int (xs (j + 3))]) (st := []) C X dL_law_645 lnL_88 myX12_table viX12_table ⟨by decide, by decide⟩ rfl rfl hk1 (Nat.le_of_ble_eq_true rfl) R0.1 R0.2 (ctX12_table e1 ?_)
  show pm_G g 648 [(3, .int (Int32.ofNat j)), (2, .ref m), (1, .ref x), (0, .retAddr b)] [.int r1] h (pm_sz h + 0) (pm_us h + 0)
  refine pm_aload_n C dL_law_648 rfl rfl ?_
  refine pm_aloadT C dL_law_649 rfl rfl ?_
  refine pm_iload_n C dL_law_650 rfl rfl ?_
  refine pm_iconst (v := Int32.ofNat 1) C dL_law_651 (by decide) ?_
  refine pm_iadd C dL_law_652 ?_
  refine pl_sld (v := xs (j + 1)) C SX dL_law_653 (pl_ix 1 (by decide) hj hL).1 (by rw [(pl_ix 1 (by decide) hj hL).2]) ?_
  refine pm_aloadT C dL_law_654 rfl rfl ?_
  refine pm_iload_n C dL_law_655 rfl rfl ?_
  refine pm_iconst (v := Int32.ofNat 2) C dL_law_656 (by decide) ?_
  refine pm_iadd C dL_law_657 ?_
  refine pl_sld (v := xs (j + 2)) C SX dL_law_658 (pl_ix 2 (by decide) hj hL).1 (by rw [(pl_ix 2 (by decide) hj hL).2]) ?_
  refine pm_aloadT C dL_law_659 rfl rfl ?_
  refine pm_iload_n C dL_law_660 rfl rfl ?_
  refine pm_iconst (v := Int32.ofNat 3) C dL_law_661 (by decide) ?_
  refine pm_iadd C dL_law_662 ?_
  refine pl_sld (v := xs (j + 3)) C SX dL_law_663 (pl_ix 3 (by decide) hj hL).1 (by rw [(pl_ix 3 (by decide) hj hL).2]) ?_
  refine pm_callV (as := [.int (xs (j + 1)), .int (xs (j + 2)), .int (xs (j + 3))]) (st := [.int r1]) C X dL_law_664 lnL_91 myX16_table viX16_table ⟨by decide, by decide⟩ rfl rfl hk2 (Nat.le_of_ble_eq_true rfl) R1.1 R1.2 (ctX16_table e2 ?_)
  show pm_G g 667 [(3, .int (Int32.ofNat j)), (2, .ref m), (1, .ref x), (0, .retAddr b)] [.int r2, .int r1] h (pm_sz h + 0) (pm_us h + 0)
  refine pm_icmp_eq (tgt := 706) C dL_law_667 (by decide) (fun _ => kk) (fun c => absurd he c)

set_option maxRecDepth 100000 in
theorem lw_c17 {g : pm_Gm} {l : Launch} {G : pm_Gl} {Qr : Option Value → pm_H → Prop} (C : pm_C g code RL) (X : pm_X g l G mL_law 600002 7302232 Qr) {b L j x m : Nat} {xs : Nat → Int32} {h h2 : pm_H} (SX : pl_S g b L xs) (hj : j + 6 ≤ L) (hL : L ≤ 384) (hk1 : pm_kd h x = 12) (R0 : pl_R h) (hf : lw_s17 (fun i => xs (j + i)) x m h = some h2) (kk : pm_G g 706 [(3, .int (Int32.ofNat j)), (2, .ref m), (1, .ref x), (0, .retAddr b)] [] h2 (pm_sz h2) (pm_us h2)) : pm_G g 672 [(3, .int (Int32.ofNat j)), (2, .ref m), (1, .ref x), (0, .retAddr b)] [] h (pm_sz h) (pm_us h) := by
  unfold lw_s17 at hf
  obtain ⟨r1, e1, hf⟩ := pm_bd hf
  obtain ⟨⟨hk2, R1⟩, hf⟩ := pm_if hf
  obtain ⟨r2, e2, hf⟩ := pm_bd hf
  obtain ⟨⟨he, R2⟩, hf⟩ := pm_if hf
  have hf := Option.some.inj hf
  subst hf
  refine pm_aload_n C dL_law_672 rfl rfl ?_
  refine pm_aloadT C dL_law_673 rfl rfl ?_
  refine pm_iload_n C dL_law_674 rfl rfl ?_
  refine pm_iconst (v := Int32.ofNat 1) C dL_law_675 (by decide) ?_
  refine pm_iadd C dL_law_676 ?_
  refine pl_sld (v := xs (j + 1)) C SX dL_law_677 (pl_ix 1 (by decide) hj hL).1 (by rw [(pl_ix 1 (by decide) hj hL).2]) ?_
  refine pm_aloadT C dL_law_678 rfl rfl ?_
  refine pm_iload_n C dL_law_679 rfl rfl ?_
  refine pm_iconst (v := Int32.ofNat 2) C dL_law_680 (by decide) ?_
  refine pm_iadd C dL_law_681 ?_
  refine pl_sld (v := xs (j + 2)) C SX dL_law_682 (pl_ix 2 (by decide) hj hL).1 (by rw [(pl_ix 2 (by decide) hj hL).2]) ?_
  refine pm_callV (as := [.int (xs (j + 1)), .int (xs (j + 2))]) (st := []) C X dL_law_683 lnL_92 myX12_global viX12_global ⟨by decide, by decide⟩ rfl rfl hk1 (Nat.le_of_ble_eq_true rfl) R0.1 R0.2 (ctX12_global e1 ?_)
  show pm_G g 686 [(3, .int (Int32.ofNat j)), (2, .ref m), (1, .ref x), (0, .retAddr b)] [.long r1] h (pm_sz h + 0) (pm_us h + 0)
  refine pm_aload_n C dL_law_686 rfl rfl ?_
  refine pm_aloadT C dL_law_687 rfl rfl ?_
  refine pm_iload_n C dL_law_688 rfl rfl ?_
  refine pm_iconst (v := Int32.ofNat 1) C dL_law_689 (by decide) ?_
  refine pm_iadd C dL_law_690 ?_
  refine pl_sld (v := xs (j + 1)) C SX dL_law_691 (pl_ix 1 (by decide) hj hL).1 (by rw [(pl_ix 1 (by decide) hj hL).2]) ?_
  refine pm_aloadT C dL_law_692 rfl rfl ?_
  refine pm_iload_n C dL_law_693 rfl rfl ?_
  refine pm_iconst (v := Int32.ofNat 2) C dL_law_694 (by decide) ?_
  refine pm_iadd C dL_law_695 ?_
  refine pl_sld (v := xs (j + 2)) C SX dL_law_696 (pl_ix 2 (by decide) hj hL).1 (by rw [(pl_ix 2 (by decide) hj hL).2]) ?_
  refine pm_callV (as := [.int (xs (j + 1)), .int (xs (j + 2))]) (st := [.long r1]) C X dL_law_697 lnL_96 myX16_global viX16_global ⟨by decide, by decide⟩ rfl rfl hk2 (Nat.le_of_ble_eq_true rfl) R1.1 R1.2 (ctX16_global e2 ?_)
  show pm_G g 700 [(3, .int (Int32.ofNat j)), (2, .ref m), (1, .ref x), (0, .retAddr b)] [.long r2, .long r1] h (pm_sz h + 0) (pm_us h + 0)
  refine pm_lcmp C dL_law_700 ?_
  refine pm_if_eq (tgt := 706) C dL_law_701 (by decide) (fun _ => kk) (fun c => absurd ((pm_lg_eq _ _).mpr he) c)
