theorem dX1_variable_0 : decode cX1_variable 0 = .ok (.aload_n 0, 1) := by decide +kernel
theorem dX1_variable_1 : decode cX1_variable 1 = .ok (.getfield 36, 3) := by decide +kernel
theorem dX1_variable_4 : decode cX1_variable 4 = .ok (.getfield 201, 3) := by decide +kernel
theorem dX1_variable_7 : decode cX1_variable 7 = .ok (.invokestatic 418, 3) := by decide +kernel
theorem dX1_variable_10 : decode cX1_variable 10 = .ok (.istore_n 2, 1) := by decide +kernel
theorem dX1_variable_11 : decode cX1_variable 11 = .ok (.iload_n 1, 1) := by decide +kernel
theorem dX1_variable_12 : decode cX1_variable 12 = .ok (.bipush 34, 2) := by decide +kernel
theorem dX1_variable_14 : decode cX1_variable 14 = .ok (.if_icmp .gt 19, 3) := by decide +kernel
theorem dX1_variable_17 : decode cX1_variable 17 = .ok (.iload_n 2, 1) := by decide +kernel
theorem dX1_variable_18 : decode cX1_variable 18 = .ok (.aload_n 0, 1) := by decide +kernel
theorem dX1_variable_19 : decode cX1_variable 19 = .ok (.getfield 242, 3) := by decide +kernel
theorem dX1_variable_22 : decode cX1_variable 22 = .ok (.if_icmp .ge 7, 3) := by decide +kernel
theorem dX1_variable_25 : decode cX1_variable 25 = .ok (.iconst 1, 1) := by decide +kernel
theorem dX1_variable_26 : decode cX1_variable 26 = .ok (.goto 17, 3) := by decide +kernel
theorem dX1_variable_29 : decode cX1_variable 29 = .ok (.iconst 0, 1) := by decide +kernel
theorem dX1_variable_30 : decode cX1_variable 30 = .ok (.goto 13, 3) := by decide +kernel
theorem dX1_variable_33 : decode cX1_variable 33 = .ok (.aload_n 0, 1) := by decide +kernel
theorem dX1_variable_34 : decode cX1_variable 34 = .ok (.getfield 40, 3) := by decide +kernel
theorem dX1_variable_37 : decode cX1_variable 37 = .ok (.iconst 3, 1) := by decide +kernel
theorem dX1_variable_38 : decode cX1_variable 38 = .ok (.iload_n 2, 1) := by decide +kernel
theorem dX1_variable_39 : decode cX1_variable 39 = .ok (.i2l, 1) := by decide +kernel
theorem dX1_variable_40 : decode cX1_variable 40 = .ok (.invokevirtual 146, 3) := by decide +kernel
theorem dX1_variable_43 : decode cX1_variable 43 = .ok (.istore_n 3, 1) := by decide +kernel
theorem dX1_variable_44 : decode cX1_variable 44 = .ok (.iload_n 1, 1) := by decide +kernel
theorem dX1_variable_45 : decode cX1_variable 45 = .ok (.bipush 36, 2) := by decide +kernel
theorem dX1_variable_47 : decode cX1_variable 47 = .ok (.if_icmp .ne 26, 3) := by decide +kernel
theorem dX1_variable_50 : decode cX1_variable 50 = .ok (.iload_n 3, 1) := by decide +kernel
theorem dX1_variable_51 : decode cX1_variable 51 = .ok (.ifCond .eq 22, 3) := by decide +kernel
theorem dX1_variable_54 : decode cX1_variable 54 = .ok (.aload_n 0, 1) := by decide +kernel
theorem dX1_variable_55 : decode cX1_variable 55 = .ok (.getfield 40, 3) := by decide +kernel
theorem dX1_variable_58 : decode cX1_variable 58 = .ok (.iconst 3, 1) := by decide +kernel
theorem dX1_variable_59 : decode cX1_variable 59 = .ok (.iload_n 2, 1) := by decide +kernel
theorem dX1_variable_60 : decode cX1_variable 60 = .ok (.iconst 2, 1) := by decide +kernel
theorem dX1_variable_61 : decode cX1_variable 61 = .ok (.invokevirtual 122, 3) := by decide +kernel
theorem dX1_variable_64 : decode cX1_variable 64 = .ok (.lconst 0, 1) := by decide +kernel
theorem dX1_variable_65 : decode cX1_variable 65 = .ok (.lcmp, 1) := by decide +kernel
theorem dX1_variable_66 : decode cX1_variable 66 = .ok (.ifCond .ne 7, 3) := by decide +kernel
theorem dX1_variable_69 : decode cX1_variable 69 = .ok (.iconst 1, 1) := by decide +kernel
theorem dX1_variable_70 : decode cX1_variable 70 = .ok (.goto 4, 3) := by decide +kernel
theorem dX1_variable_73 : decode cX1_variable 73 = .ok (.iconst 0, 1) := by decide +kernel
theorem dX1_variable_74 : decode cX1_variable 74 = .ok (.istore 4, 2) := by decide +kernel
theorem dX1_variable_76 : decode cX1_variable 76 = .ok (.iload_n 3, 1) := by decide +kernel
theorem dX1_variable_77 : decode cX1_variable 77 = .ok (.ifCond .eq 8, 3) := by decide +kernel
theorem dX1_variable_80 : decode cX1_variable 80 = .ok (.iload 4, 2) := by decide +kernel
theorem dX1_variable_82 : decode cX1_variable 82 = .ok (.ifCond .eq 10, 3) := by decide +kernel
theorem dX1_variable_85 : decode cX1_variable 85 = .ok (.aload_n 0, 1) := by decide +kernel
theorem dX1_variable_86 : decode cX1_variable 86 = .ok (.bipush 30, 2) := by decide +kernel
theorem dX1_variable_88 : decode cX1_variable 88 = .ok (.invokevirtual 198, 3) := by decide +kernel
theorem dX1_variable_91 : decode cX1_variable 91 = .ok (.return_, 1) := by decide +kernel
theorem dX1_variable_92 : decode cX1_variable 92 = .ok (.iload_n 1, 1) := by decide +kernel
theorem dX1_variable_93 : decode cX1_variable 93 = .ok (.bipush 34, 2) := by decide +kernel
theorem dX1_variable_95 : decode cX1_variable 95 = .ok (.if_icmp .gt 14, 3) := by decide +kernel
theorem dX1_variable_98 : decode cX1_variable 98 = .ok (.aload_n 0, 1) := by decide +kernel
theorem dX1_variable_99 : decode cX1_variable 99 = .ok (.getfield 22, 3) := by decide +kernel
theorem dX1_variable_102 : decode cX1_variable 102 = .ok (.iload_n 2, 1) := by decide +kernel
theorem dX1_variable_103 : decode cX1_variable 103 = .ok (.invokestatic 105, 3) := by decide +kernel
theorem dX1_variable_106 : decode cX1_variable 106 = .ok (.goto 14, 3) := by decide +kernel
theorem dX1_variable_109 : decode cX1_variable 109 = .ok (.aload_n 0, 1) := by decide +kernel
theorem dX1_variable_110 : decode cX1_variable 110 = .ok (.getfield 40, 3) := by decide +kernel
theorem dX1_variable_113 : decode cX1_variable 113 = .ok (.iconst 3, 1) := by decide +kernel
theorem dX1_variable_114 : decode cX1_variable 114 = .ok (.iload_n 2, 1) := by decide +kernel
theorem dX1_variable_115 : decode cX1_variable 115 = .ok (.iconst 1, 1) := by decide +kernel
theorem dX1_variable_116 : decode cX1_variable 116 = .ok (.invokevirtual 122, 3) := by decide +kernel
theorem dX1_variable_119 : decode cX1_variable 119 = .ok (.l2i, 1) := by decide +kernel
theorem dX1_variable_120 : decode cX1_variable 120 = .ok (.istore 5, 2) := by decide +kernel
theorem dX1_variable_122 : decode cX1_variable 122 = .ok (.iload_n 1, 1) := by decide +kernel
theorem dX1_variable_123 : decode cX1_variable 123 = .ok (.bipush 33, 2) := by decide +kernel
theorem dX1_variable_125 : decode cX1_variable 125 = .ok (.if_icmp .eq 15, 3) := by decide +kernel
theorem dX1_variable_128 : decode cX1_variable 128 = .ok (.iload_n 1, 1) := by decide +kernel
theorem dX1_variable_129 : decode cX1_variable 129 = .ok (.bipush 34, 2) := by decide +kernel
theorem dX1_variable_131 : decode cX1_variable 131 = .ok (.if_icmp .eq 9, 3) := by decide +kernel
theorem dX1_variable_134 : decode cX1_variable 134 = .ok (.iload_n 1, 1) := by decide +kernel
theorem dX1_variable_135 : decode cX1_variable 135 = .ok (.bipush 36, 2) := by decide +kernel
theorem dX1_variable_137 : decode cX1_variable 137 = .ok (.if_icmp .ne 10, 3) := by decide +kernel
theorem dX1_variable_140 : decode cX1_variable 140 = .ok (.aload_n 0, 1) := by decide +kernel
theorem dX1_variable_141 : decode cX1_variable 141 = .ok (.iload 5, 2) := by decide +kernel
theorem dX1_variable_143 : decode cX1_variable 143 = .ok (.invokevirtual 289, 3) := by decide +kernel
theorem dX1_variable_146 : decode cX1_variable 146 = .ok (.pop, 1) := by decide +kernel
theorem dX1_variable_147 : decode cX1_variable 147 = .ok (.iload_n 1, 1) := by decide +kernel
theorem dX1_variable_148 : decode cX1_variable 148 = .ok (.bipush 32, 2) := by decide +kernel
theorem dX1_variable_150 : decode cX1_variable 150 = .ok (.if_icmp .eq 15, 3) := by decide +kernel
theorem dX1_variable_153 : decode cX1_variable 153 = .ok (.iload_n 1, 1) := by decide +kernel
theorem dX1_variable_154 : decode cX1_variable 154 = .ok (.bipush 34, 2) := by decide +kernel
theorem dX1_variable_156 : decode cX1_variable 156 = .ok (.if_icmp .eq 9, 3) := by decide +kernel
theorem dX1_variable_159 : decode cX1_variable 159 = .ok (.iload_n 1, 1) := by decide +kernel
theorem dX1_variable_160 : decode cX1_variable 160 = .ok (.bipush 35, 2) := by decide +kernel
theorem dX1_variable_162 : decode cX1_variable 162 = .ok (.if_icmp .ne 9, 3) := by decide +kernel
theorem dX1_variable_165 : decode cX1_variable 165 = .ok (.aload_n 0, 1) := by decide +kernel
theorem dX1_variable_166 : decode cX1_variable 166 = .ok (.iload 5, 2) := by decide +kernel
theorem dX1_variable_168 : decode cX1_variable 168 = .ok (.invokevirtual 292, 3) := by decide +kernel
theorem dX1_variable_171 : decode cX1_variable 171 = .ok (.iload_n 1, 1) := by decide +kernel
theorem dX1_variable_172 : decode cX1_variable 172 = .ok (.bipush 33, 2) := by decide +kernel
theorem dX1_variable_174 : decode cX1_variable 174 = .ok (.if_icmp .eq 15, 3) := by decide +kernel
theorem dX1_variable_177 : decode cX1_variable 177 = .ok (.iload_n 1, 1) := by decide +kernel
theorem dX1_variable_178 : decode cX1_variable 178 = .ok (.bipush 34, 2) := by decide +kernel
theorem dX1_variable_180 : decode cX1_variable 180 = .ok (.if_icmp .eq 9, 3) := by decide +kernel
theorem dX1_variable_183 : decode cX1_variable 183 = .ok (.iload_n 1, 1) := by decide +kernel
theorem dX1_variable_184 : decode cX1_variable 184 = .ok (.bipush 36, 2) := by decide +kernel
theorem dX1_variable_186 : decode cX1_variable 186 = .ok (.if_icmp .ne 7, 3) := by decide +kernel
theorem dX1_variable_189 : decode cX1_variable 189 = .ok (.iconst 1, 1) := by decide +kernel
theorem dX1_variable_190 : decode cX1_variable 190 = .ok (.goto 4, 3) := by decide +kernel
theorem dX1_variable_193 : decode cX1_variable 193 = .ok (.iconst 0, 1) := by decide +kernel
theorem dX1_variable_194 : decode cX1_variable 194 = .ok (.istore 6, 2) := by decide +kernel
theorem dX1_variable_196 : decode cX1_variable 196 = .ok (.aload_n 0, 1) := by decide +kernel
theorem dX1_variable_197 : decode cX1_variable 197 = .ok (.iload 6, 2) := by decide +kernel
theorem dX1_variable_199 : decode cX1_variable 199 = .ok (.iload_n 1, 1) := by decide +kernel
theorem dX1_variable_200 : decode cX1_variable 200 = .ok (.bipush 32, 2) := by decide +kernel
theorem dX1_variable_202 : decode cX1_variable 202 = .ok (.if_icmp .eq 15, 3) := by decide +kernel
theorem dX1_variable_205 : decode cX1_variable 205 = .ok (.iload_n 1, 1) := by decide +kernel
theorem dX1_variable_206 : decode cX1_variable 206 = .ok (.bipush 34, 2) := by decide +kernel
theorem dX1_variable_208 : decode cX1_variable 208 = .ok (.if_icmp .eq 9, 3) := by decide +kernel
theorem dX1_variable_211 : decode cX1_variable 211 = .ok (.iload_n 1, 1) := by decide +kernel
theorem dX1_variable_212 : decode cX1_variable 212 = .ok (.bipush 35, 2) := by decide +kernel
theorem dX1_variable_214 : decode cX1_variable 214 = .ok (.if_icmp .ne 7, 3) := by decide +kernel
theorem dX1_variable_217 : decode cX1_variable 217 = .ok (.iconst 1, 1) := by decide +kernel
theorem dX1_variable_218 : decode cX1_variable 218 = .ok (.goto 4, 3) := by decide +kernel
theorem dX1_variable_221 : decode cX1_variable 221 = .ok (.iconst 0, 1) := by decide +kernel
theorem dX1_variable_222 : decode cX1_variable 222 = .ok (.invokevirtual 353, 3) := by decide +kernel
theorem dX1_variable_225 : decode cX1_variable 225 = .ok (.return_, 1) := by decide +kernel
def fX1_variable_b189 (h : pm_H) (x0 : Nat) (x1 : Int32) : Option pm_H := if x1 = 32 then (if pm_kd h x0 = 1 then (fX1_emitPlain h x0 1 1).bind fun v75 => some v75 else none) else (if x1 = 34 then (if pm_kd h x0 = 1 then (fX1_emitPlain h x0 1 1).bind fun v79 => some v79 else none) else (if x1 = 35 then (if pm_kd h x0 = 1 then (fX1_emitPlain h x0 1 1).bind fun v86 => some v86 else none) else (if pm_kd h x0 = 1 then (fX1_emitPlain h x0 1 0).bind fun v83 => some v83 else none)))
def fX1_variable_b171 (h : pm_H) (x0 : Nat) (x1 : Int32) : Option pm_H := if x1 = 33 then (fX1_variable_b189 h x0 x1) else (if x1 = 34 then (fX1_variable_b189 h x0 x1) else (if x1 = 36 then (fX1_variable_b189 h x0 x1) else (if x1 = 32 then (if pm_kd h x0 = 1 then (fX1_emitPlain h x0 0 1).bind fun v60 => some v60 else none) else (if x1 = 34 then (if pm_kd h x0 = 1 then (fX1_emitPlain h x0 0 1).bind fun v64 => some v64 else none) else (if x1 = 35 then (if pm_kd h x0 = 1 then (fX1_emitPlain h x0 0 1).bind fun v71 => some v71 else none) else (if pm_kd h x0 = 1 then (fX1_emitPlain h x0 0 0).bind fun v68 => some v68 else none))))))
def fX1_variable_b165 (h : pm_H) (x0 : Nat) (x1 : Int32) (x5 : Int32) : Option pm_H := if pm_kd h x0 = 1 then (fX1_put h x0 x5).bind fun v53 => fX1_variable_b171 v53 x0 x1 else none
def fX1_variable_b147 (h : pm_H) (x0 : Nat) (x1 : Int32) (x5 : Int32) : Option pm_H := if x1 = 32 then (fX1_variable_b165 h x0 x1 x5) else (if x1 = 34 then (fX1_variable_b165 h x0 x1 x5) else (if x1 = 35 then (fX1_variable_b165 h x0 x1 x5) else (fX1_variable_b171 h x0 x1)))
def fX1_variable_b140 (h : pm_H) (x0 : Nat) (x1 : Int32) (x5 : Int32) : Option pm_H := if pm_kd h x0 = 1 then (fX1_take h x0 x5).bind fun v47 => fX1_variable_b147 v47.2 x0 x1 x5 else none
def fX1_variable_b120 (h : pm_H) (x0 : Nat) (x1 : Int32) (s0 : Int32) : Option pm_H := if x1 = 33 then (fX1_variable_b140 h x0 x1 s0) else (if x1 = 34 then (fX1_variable_b140 h x0 x1 s0) else (if x1 = 36 then (fX1_variable_b140 h x0 x1 s0) else (fX1_variable_b147 h x0 x1 s0)))
def fX1_variable_b74 (h : pm_H) (x0 : Nat) (x1 : Int32) (x2 : Int32) (x3 : Int32) (s0 : Int32) : Option pm_H := if x3 = 0 then (if pm_kd h x0 = 1 then (fX1_fail h x0 30).bind fun v25 => some v25 else none) else (if s0 = 0 then (if 34 < x1 then (if pm_kd h x0 = 1 then (pm_R h x0 2).bind fun v30 => if pm_kd h v30 = 7 then (fX7_of h v30 3 x2 1).bind fun v33 => fX1_variable_b120 h x0 x1 v33.toInt32 else none else none) else (if pm_kd h x0 = 1 then (pm_R h x0 11).bind fun v36 => (fX12_item h v36 x2).bind fun v38 => fX1_variable_b120 h x0 x1 v38 else none)) else (if pm_kd h x0 = 1 then (fX1_fail h x0 30).bind fun v41 => some v41 else none))
def fX1_variable_b73 (h : pm_H) (x0 : Nat) (x1 : Int32) (x2 : Int32) (x3 : Int32) : Option pm_H := fX1_variable_b74 h x0 x1 x2 x3 0
def fX1_variable_b43 (h : pm_H) (x0 : Nat) (x1 : Int32) (x2 : Int32) (s0 : Int32) : Option pm_H := if x1 = 36 then (if s0 = 0 then (fX1_variable_b73 h x0 x1 x2 s0) else (if pm_kd h x0 = 1 then (pm_R h x0 2).bind fun v17 => if pm_kd h v17 = 7 then (fX7_of h v17 3 x2 2).bind fun v20 => if v20 = 0 then (fX1_variable_b74 h x0 x1 x2 s0 1) else (fX1_variable_b73 h x0 x1 x2 s0) else none else none)) else (fX1_variable_b73 h x0 x1 x2 s0)
def fX1_variable (h : pm_H) (a0 : Nat) (p1 : Int32) : Option pm_H := if pm_kd h a0 = 1 then (pm_R h a0 3).bind fun v2 => if pm_kd h v2 = 9 then pm_let (fX12_index (pm_L h v2 8)) fun v5 => if 34 < p1 then ((pm_R h a0 2).bind fun v8 => if pm_kd h v8 = 7 then (fX7_has h v8 3 v5.toInt64).bind fun v11 => fX1_variable_b43 h a0 p1 v5 v11 else none) else (if (pm_I h a0 12) ≤ v5 then (fX1_variable_b43 h a0 p1 v5 0) else (fX1_variable_b43 h a0 p1 v5 1)) else none else none
set_option maxHeartbeats 4000000 in
set_option maxRecDepth 100000 in
theorem bX1_variable_189 {g : pm_Gm} {l : Launch} {G : pm_Gl} {Qr : Option Value → pm_H → Prop} (C : pm_C g cX1_variable RX1) (X : pm_X g l G mX1_variable 0 0 Qr) {h : pm_H} {x0 : Nat} {x1 : Int32} {r : pm_H} (hf : fX1_variable_b189 h x0 x1 = some r) (q : Qr none r) : pm_G g 189 [(0, .ref x0), (1, .int x1)] [] h 0 0 := by
  unfold fX1_variable_b189 at hf
  refine pm_iconst (v := 1) C dX1_variable_189 (by decide) ?_
  refine pm_goto (tgt := 194) C dX1_variable_190 (by decide) ?_
  refine pm_istore (lv' := [(6, .int 1), (0, .ref x0), (1, .int x1)]) C dX1_variable_194 (pm_nl X (by decide)) rfl ?_
  refine pm_aload_n C dX1_variable_196 rfl rfl ?_
  refine pm_iload C dX1_variable_197 rfl ?_
  refine pm_iload_n C dX1_variable_199 rfl rfl ?_
  refine pm_bipush (v := 32) C dX1_variable_200 (by decide) ?_
  refine pm_icmp_eq (tgt := 217) C dX1_variable_202 (by decide) (fun c73 => ?_) (fun c73 => ?_)
  · have hf := pm_it hf c73
    refine pm_iconst (v := 1) C dX1_variable_217 (by decide) ?_
    refine pm_goto (tgt := 222) C dX1_variable_218 (by decide) ?_
    obtain ⟨k74, hf⟩ := pm_if hf
    obtain ⟨v75, e76, hf⟩ := pm_bd hf
    refine pm_callV (as := [.int 1, .int 1]) (st := []) C X dX1_variable_222 lnX1_353 myX1_emitPlain viX1_emitPlain ⟨by decide, by decide⟩ rfl rfl k74 (Nat.le_of_ble_eq_true rfl) (Nat.le_refl _) (Nat.le_refl _) (ctX1_emitPlain e76 ?_)
    show pm_G g 225 [(6, .int 1), (0, .ref x0), (1, .int x1)] [] v75 0 0
    cases hf
    exact pm_vret C X dX1_variable_225 rfl (Nat.le_refl _) (Nat.le_refl _) q
  · have hf := pm_ie hf c73
    refine pm_iload_n C dX1_variable_205 rfl rfl ?_
    refine pm_bipush (v := 34) C dX1_variable_206 (by decide) ?_
    refine pm_icmp_eq (tgt := 217) C dX1_variable_208 (by decide) (fun c77 => ?_) (fun c77 => ?_)
    · have hf := pm_it hf c77
      refine pm_iconst (v := 1) C dX1_variable_217 (by decide) ?_
      refine pm_goto (tgt := 222) C dX1_variable_218 (by decide) ?_
      obtain ⟨k78, hf⟩ := pm_if hf
      obtain ⟨v79, e80, hf⟩ := pm_bd hf
      refine pm_callV (as := [.int 1, .int 1]) (st := []) C X dX1_variable_222 lnX1_353 myX1_emitPlain viX1_emitPlain ⟨by decide, by decide⟩ rfl rfl k78 (Nat.le_of_ble_eq_true rfl) (Nat.le_refl _) (Nat.le_refl _) (ctX1_emitPlain e80 ?_)
      show pm_G g 225 [(6, .int 1), (0, .ref x0), (1, .int x1)] [] v79 0 0
      cases hf
      exact pm_vret C X dX1_variable_225 rfl (Nat.le_refl _) (Nat.le_refl _) q
    · have hf := pm_ie hf c77
      refine pm_iload_n C dX1_variable_211 rfl rfl ?_
      refine pm_bipush (v := 35) C dX1_variable_212 (by decide) ?_
      refine pm_icmp_ne (tgt := 221) C dX1_variable_214 (by decide) (fun c81 => ?_) (fun c81 => ?_)
      · have hf := pm_ie hf c81
        refine pm_iconst (v := 0) C dX1_variable_221 (by decide) ?_
        obtain ⟨k82, hf⟩ := pm_if hf
        obtain ⟨v83, e84, hf⟩ := pm_bd hf
        refine pm_callV (as := [.int 1, .int 0]) (st := []) C X dX1_variable_222 lnX1_353 myX1_emitPlain viX1_emitPlain ⟨by decide, by decide⟩ rfl rfl k82 (Nat.le_of_ble_eq_true rfl) (Nat.le_refl _) (Nat.le_refl _) (ctX1_emitPlain e84 ?_)
        show pm_G g 225 [(6, .int 1), (0, .ref x0), (1, .int x1)] [] v83 0 0
        cases hf
        exact pm_vret C X dX1_variable_225 rfl (Nat.le_refl _) (Nat.le_refl _) q
      · have hf := pm_it hf c81
        refine pm_iconst (v := 1) C dX1_variable_217 (by decide) ?_
        refine pm_goto (tgt := 222) C dX1_variable_218 (by decide) ?_
        obtain ⟨k85, hf⟩ := pm_if hf
        obtain ⟨v86, e87, hf⟩ := pm_bd hf
        refine pm_callV (as := [.int 1, .int 1]) (st := []) C X dX1_variable_222 lnX1_353 myX1_emitPlain viX1_emitPlain ⟨by decide, by decide⟩ rfl rfl k85 (Nat.le_of_ble_eq_true rfl) (Nat.le_refl _) (Nat.le_refl _) (ctX1_emitPlain e87 ?_)
        show pm_G g 225 [(6, .int 1), (0, .ref x0), (1, .int x1)] [] v86 0 0
        cases hf
        exact pm_vret C X dX1_variable_225 rfl (Nat.le_refl _) (Nat.le_refl _) q
set_option maxHeartbeats 4000000 in
set_option maxRecDepth 100000 in
theorem bX1_variable_171 {g : pm_Gm} {l : Launch} {G : pm_Gl} {Qr : Option Value → pm_H → Prop} (C : pm_C g cX1_variable RX1) (X : pm_X g l G mX1_variable 0 0 Qr) {h : pm_H} {x0 : Nat} {x1 : Int32} {r : pm_H} (hf : fX1_variable_b171 h x0 x1 = some r) (q : Qr none r) : pm_G g 171 [(0, .ref x0), (1, .int x1)] [] h 0 0 := by
  unfold fX1_variable_b171 at hf
  refine pm_iload_n C dX1_variable_171 rfl rfl ?_
  refine pm_bipush (v := 33) C dX1_variable_172 (by decide) ?_
  refine pm_icmp_eq (tgt := 189) C dX1_variable_174 (by decide) (fun c55 => ?_) (fun c55 => ?_)
  · have hf := pm_it hf c55
    exact pm_sub [0, 1] rfl (bX1_variable_189 C X hf q)
  · have hf := pm_ie hf c55
    refine pm_iload_n C dX1_variable_177 rfl rfl ?_
    refine pm_bipush (v := 34) C dX1_variable_178 (by decide) ?_
    refine pm_icmp_eq (tgt := 189) C dX1_variable_180 (by decide) (fun c56 => ?_) (fun c56 => ?_)
    · have hf := pm_it hf c56
      exact pm_sub [0, 1] rfl (bX1_variable_189 C X hf q)
    · have hf := pm_ie hf c56
      refine pm_iload_n C dX1_variable_183 rfl rfl ?_
      refine pm_bipush (v := 36) C dX1_variable_184 (by decide) ?_
      refine pm_icmp_ne (tgt := 193) C dX1_variable_186 (by decide) (fun c57 => ?_) (fun c57 => ?_)
      · have hf := pm_ie hf c57
        refine pm_iconst (v := 0) C dX1_variable_193 (by decide) ?_
        refine pm_istore (lv' := [(6, .int 0), (0, .ref x0), (1, .int x1)]) C dX1_variable_194 (pm_nl X (by decide)) rfl ?_
        refine pm_aload_n C dX1_variable_196 rfl rfl ?_
        refine pm_iload C dX1_variable_197 rfl ?_
        refine pm_iload_n C dX1_variable_199 rfl rfl ?_
        refine pm_bipush (v := 32) C dX1_variable_200 (by decide) ?_
        refine pm_icmp_eq (tgt := 217) C dX1_variable_202 (by decide) (fun c58 => ?_) (fun c58 => ?_)
        · have hf := pm_it hf c58
          refine pm_iconst (v := 1) C dX1_variable_217 (by decide) ?_
          refine pm_goto (tgt := 222) C dX1_variable_218 (by decide) ?_
          obtain ⟨k59, hf⟩ := pm_if hf
          obtain ⟨v60, e61, hf⟩ := pm_bd hf
          refine pm_callV (as := [.int 0, .int 1]) (st := []) C X dX1_variable_222 lnX1_353 myX1_emitPlain viX1_emitPlain ⟨by decide, by decide⟩ rfl rfl k59 (Nat.le_of_ble_eq_true rfl) (Nat.le_refl _) (Nat.le_refl _) (ctX1_emitPlain e61 ?_)
          show pm_G g 225 [(6, .int 0), (0, .ref x0), (1, .int x1)] [] v60 0 0
          cases hf
          exact pm_vret C X dX1_variable_225 rfl (Nat.le_refl _) (Nat.le_refl _) q
        · have hf := pm_ie hf c58
          refine pm_iload_n C dX1_variable_205 rfl rfl ?_
          refine pm_bipush (v := 34) C dX1_variable_206 (by decide) ?_
          refine pm_icmp_eq (tgt := 217) C dX1_variable_208 (by decide) (fun c62 => ?_) (fun c62 => ?_)
          · have hf := pm_it hf c62
            refine pm_iconst (v := 1) C dX1_variable_217 (by decide) ?_
            refine pm_goto (tgt := 222) C dX1_variable_218 (by decide) ?_
            obtain ⟨k63, hf⟩ := pm_if hf
            obtain ⟨v64, e65, hf⟩ := pm_bd hf
            refine pm_callV (as := [.int 0, .int 1]) (st := []) C X dX1_variable_222 lnX1_353 myX1_emitPlain viX1_emitPlain ⟨by decide, by decide⟩ rfl rfl k63 (Nat.le_of_ble_eq_true rfl) (Nat.le_refl _) (Nat.le_refl _) (ctX1_emitPlain e65 ?_)
            show pm_G g 225 [(6, .int 0), (0, .ref x0), (1, .int x1)] [] v64 0 0
            cases hf
            exact pm_vret C X dX1_variable_225 rfl (Nat.le_refl _) (Nat.le_refl _) q
          · have hf := pm_ie hf c62
            refine pm_iload_n C dX1_variable_211 rfl rfl ?_
            refine pm_bipush (v := 35) C dX1_variable_212 (by decide) ?_
            refine pm_icmp_ne (tgt := 221) C dX1_variable_214 (by decide) (fun c66 => ?_) (fun c66 => ?_)
            · have hf := pm_ie hf c66
              refine pm_iconst (v := 0) C dX1_variable_221 (by decide) ?_
              obtain ⟨k67, hf⟩ := pm_if hf
              obtain ⟨v68, e69, hf⟩ := pm_bd hf
              refine pm_callV (as := [.int 0, .int 0]) (st := []) C X dX1_variable_222 lnX1_353 myX1_emitPlain viX1_emitPlain ⟨by decide, by decide⟩ rfl rfl k67 (Nat.le_of_ble_eq_true rfl) (Nat.le_refl _) (Nat.le_refl _) (ctX1_emitPlain e69 ?_)
              show pm_G g 225 [(6, .int 0), (0, .ref x0), (1, .int x1)] [] v68 0 0
              cases hf
              exact pm_vret C X dX1_variable_225 rfl (Nat.le_refl _) (Nat.le_refl _) q
            · have hf := pm_it hf c66
              refine pm_iconst (v := 1) C dX1_variable_217 (by decide) ?_
              refine pm_goto (tgt := 222) C dX1_variable_218 (by decide) ?_
              obtain ⟨k70, hf⟩ := pm_if hf
              obtain ⟨v71, e72, hf⟩ := pm_bd hf
              refine pm_callV (as := [.int 0, .int 1]) (st := []) C X dX1_variable_222 lnX1_353 myX1_emitPlain viX1_emitPlain ⟨by decide, by decide⟩ rfl rfl k70 (Nat.le_of_ble_eq_true rfl) (Nat.le_refl _) (Nat.le_refl _) (ctX1_emitPlain e72 ?_)
              show pm_G g 225 [(6, .int 0), (0, .ref x0), (1, .int x1)] [] v71 0 0
              cases hf
              exact pm_vret C X dX1_variable_225 rfl (Nat.le_refl _) (Nat.le_refl _) q
      · have hf := pm_it hf c57
        exact pm_sub [0, 1] rfl (bX1_variable_189 C X hf q)
set_option maxHeartbeats 4000000 in
set_option maxRecDepth 100000 in
theorem bX1_variable_165 {g : pm_Gm} {l : Launch} {G : pm_Gl} {Qr : Option Value → pm_H → Prop} (C : pm_C g cX1_variable RX1) (X : pm_X g l G mX1_variable 0 0 Qr) {h : pm_H} {x0 : Nat} {x1 : Int32} {x5 : Int32} {r : pm_H} (hf : fX1_variable_b165 h x0 x1 x5 = some r) (q : Qr none r) : pm_G g 165 [(0, .ref x0), (1, .int x1), (5, .int x5)] [] h 0 0 := by
  unfold fX1_variable_b165 at hf
  refine pm_aload_n C dX1_variable_165 rfl rfl ?_
  refine pm_iload C dX1_variable_166 rfl ?_
  obtain ⟨k52, hf⟩ := pm_if hf
  obtain ⟨v53, e54, hf⟩ := pm_bd hf
  refine pm_callV (as := [.int x5]) (st := []) C X dX1_variable_168 lnX1_292 myX1_put viX1_put ⟨by decide, by decide⟩ rfl rfl k52 (Nat.le_of_ble_eq_true rfl) (Nat.le_refl _) (Nat.le_refl _) (ctX1_put e54 ?_)
  show pm_G g 171 [(0, .ref x0), (1, .int x1), (5, .int x5)] [] v53 0 0
  exact pm_sub [0, 1] rfl (bX1_variable_171 C X hf q)
set_option maxHeartbeats 4000000 in
set_option maxRecDepth 100000 in
theorem bX1_variable_147 {g : pm_Gm} {l : Launch} {G : pm_Gl} {Qr : Option Value → pm_H → Prop} (C : pm_C g cX1_variable RX1) (X : pm_X g l G mX1_variable 0 0 Qr) {h : pm_H} {x0 : Nat} {x1 : Int32} {x5 : Int32} {r : pm_H} (hf : fX1_variable_b147 h x0 x1 x5 = some r) (q : Qr none r) : pm_G g 147 [(0, .ref x0), (1, .int x1), (5, .int x5)] [] h 0 0 := by
  unfold fX1_variable_b147 at hf
  refine pm_iload_n C dX1_variable_147 rfl rfl ?_
  refine pm_bipush (v := 32) C dX1_variable_148 (by decide) ?_
  refine pm_icmp_eq (tgt := 165) C dX1_variable_150 (by decide) (fun c49 => ?_) (fun c49 => ?_)
  · have hf := pm_it hf c49
    exact pm_sub [0, 1, 2] rfl (bX1_variable_165 C X hf q)
  · have hf := pm_ie hf c49
    refine pm_iload_n C dX1_variable_153 rfl rfl ?_
    refine pm_bipush (v := 34) C dX1_variable_154 (by decide) ?_
    refine pm_icmp_eq (tgt := 165) C dX1_variable_156 (by decide) (fun c50 => ?_) (fun c50 => ?_)
    · have hf := pm_it hf c50
      exact pm_sub [0, 1, 2] rfl (bX1_variable_165 C X hf q)
    · have hf := pm_ie hf c50
      refine pm_iload_n C dX1_variable_159 rfl rfl ?_
      refine pm_bipush (v := 35) C dX1_variable_160 (by decide) ?_
      refine pm_icmp_ne (tgt := 171) C dX1_variable_162 (by decide) (fun c51 => ?_) (fun c51 => ?_)
      · have hf := pm_ie hf c51
        exact pm_sub [0, 1] rfl (bX1_variable_171 C X hf q)
      · have hf := pm_it hf c51
        exact pm_sub [0, 1, 2] rfl (bX1_variable_165 C X hf q)
set_option maxHeartbeats 4000000 in
set_option maxRecDepth 100000 in
theorem bX1_variable_140 {g : pm_Gm} {l : Launch} {G : pm_Gl} {Qr : Option Value → pm_H → Prop} (C : pm_C g cX1_variable RX1) (X : pm_X g l G mX1_variable 0 0 Qr) {h : pm_H} {x0 : Nat} {x1 : Int32} {x5 : Int32} {r : pm_H} (hf : fX1_variable_b140 h x0 x1 x5 = some r) (q : Qr none r) : pm_G g 140 [(0, .ref x0), (1, .int x1), (5, .int x5)] [] h 0 0 := by
  unfold fX1_variable_b140 at hf
  refine pm_aload_n C dX1_variable_140 rfl rfl ?_
  refine pm_iload C dX1_variable_141 rfl ?_
  obtain ⟨k46, hf⟩ := pm_if hf
  obtain ⟨v47, e48, hf⟩ := pm_bd hf
  refine pm_callV (as := [.int x5]) (st := []) C X dX1_variable_143 lnX1_289 myX1_take viX1_take ⟨by decide, by decide⟩ rfl rfl k46 (Nat.le_of_ble_eq_true rfl) (Nat.le_refl _) (Nat.le_refl _) (ctX1_take e48 ?_)
  show pm_G g 146 [(0, .ref x0), (1, .int x1), (5, .int x5)] [.int v47.1] v47.2 0 0
  refine pm_pop C dX1_variable_146 rfl ?_
  exact pm_sub [0, 1, 2] rfl (bX1_variable_147 C X hf q)
set_option maxHeartbeats 4000000 in
set_option maxRecDepth 100000 in
theorem bX1_variable_120 {g : pm_Gm} {l : Launch} {G : pm_Gl} {Qr : Option Value → pm_H → Prop} (C : pm_C g cX1_variable RX1) (X : pm_X g l G mX1_variable 0 0 Qr) {h : pm_H} {x0 : Nat} {x1 : Int32} {s0 : Int32} {r : pm_H} (hf : fX1_variable_b120 h x0 x1 s0 = some r) (q : Qr none r) : pm_G g 120 [(0, .ref x0), (1, .int x1)] [.int s0] h 0 0 := by
  unfold fX1_variable_b120 at hf
  refine pm_istore (lv' := [(5, .int s0), (0, .ref x0), (1, .int x1)]) C dX1_variable_120 (pm_nl X (by decide)) rfl ?_
  refine pm_iload_n C dX1_variable_122 rfl rfl ?_
  refine pm_bipush (v := 33) C dX1_variable_123 (by decide) ?_
  refine pm_icmp_eq (tgt := 140) C dX1_variable_125 (by decide) (fun c43 => ?_) (fun c43 => ?_)
  · have hf := pm_it hf c43
    exact pm_sub [1, 2, 0] rfl (bX1_variable_140 C X hf q)
  · have hf := pm_ie hf c43
    refine pm_iload_n C dX1_variable_128 rfl rfl ?_
    refine pm_bipush (v := 34) C dX1_variable_129 (by decide) ?_
    refine pm_icmp_eq (tgt := 140) C dX1_variable_131 (by decide) (fun c44 => ?_) (fun c44 => ?_)
    · have hf := pm_it hf c44
      exact pm_sub [1, 2, 0] rfl (bX1_variable_140 C X hf q)
    · have hf := pm_ie hf c44
      refine pm_iload_n C dX1_variable_134 rfl rfl ?_
      refine pm_bipush (v := 36) C dX1_variable_135 (by decide) ?_
      refine pm_icmp_ne (tgt := 147) C dX1_variable_137 (by decide) (fun c45 => ?_) (fun c45 => ?_)
      · have hf := pm_ie hf c45
        exact pm_sub [1, 2, 0] rfl (bX1_variable_147 C X hf q)
      · have hf := pm_it hf c45
        exact pm_sub [1, 2, 0] rfl (bX1_variable_140 C X hf q)
set_option maxHeartbeats 4000000 in
set_option maxRecDepth 100000 in
theorem bX1_variable_74 {g : pm_Gm} {l : Launch} {G : pm_Gl} {Qr : Option Value → pm_H → Prop} (C : pm_C g cX1_variable RX1) (X : pm_X g l G mX1_variable 0 0 Qr) {h : pm_H} {x0 : Nat} {x1 : Int32} {x2 : Int32} {x3 : Int32} {s0 : Int32} {r : pm_H} (hf : fX1_variable_b74 h x0 x1 x2 x3 s0 = some r) (q : Qr none r) : pm_G g 74 [(0, .ref x0), (1, .int x1), (2, .int x2), (3, .int x3)] [.int s0] h 0 0 := by
  unfold fX1_variable_b74 at hf
  refine pm_istore (lv' := [(4, .int s0), (0, .ref x0), (1, .int x1), (2, .int x2), (3, .int x3)]) C dX1_variable_74 (pm_nl X (by decide)) rfl ?_
  refine pm_iload_n C dX1_variable_76 rfl rfl ?_
  refine pm_if_eq (tgt := 85) C dX1_variable_77 (by decide) (fun c23 => ?_) (fun c23 => ?_)
  · have hf := pm_it hf c23
    refine pm_aload_n C dX1_variable_85 rfl rfl ?_
    refine pm_bipush (v := 30) C dX1_variable_86 (by decide) ?_
    obtain ⟨k24, hf⟩ := pm_if hf
    obtain ⟨v25, e26, hf⟩ := pm_bd hf
    refine pm_callV (as := [.int 30]) (st := []) C X dX1_variable_88 lnX1_198 myX1_fail viX1_fail ⟨by decide, by decide⟩ rfl rfl k24 (Nat.le_of_ble_eq_true rfl) (Nat.le_refl _) (Nat.le_refl _) (ctX1_fail e26 ?_)
    show pm_G g 91 [(4, .int s0), (0, .ref x0), (1, .int x1), (2, .int x2), (3, .int x3)] [] v25 0 0
    cases hf
    exact pm_vret C X dX1_variable_91 rfl (Nat.le_refl _) (Nat.le_refl _) q
  · have hf := pm_ie hf c23
    refine pm_iload C dX1_variable_80 rfl ?_
    refine pm_if_eq (tgt := 92) C dX1_variable_82 (by decide) (fun c27 => ?_) (fun c27 => ?_)
    · have hf := pm_it hf c27
      refine pm_iload_n C dX1_variable_92 rfl rfl ?_
      refine pm_bipush (v := 34) C dX1_variable_93 (by decide) ?_
      refine pm_icmp_gt (tgt := 109) C dX1_variable_95 (by decide) (fun c28 => ?_) (fun c28 => ?_)
      · have hf := pm_it hf c28
        refine pm_aload_n C dX1_variable_109 rfl rfl ?_
        obtain ⟨k29, hf⟩ := pm_if hf
        obtain ⟨v30, e31, hf⟩ := pm_bd hf
        refine pm_getR C dX1_variable_110 flX1_40 rfl k29 e31 ?_
        refine pm_iconst (v := 3) C dX1_variable_113 (by decide) ?_
        refine pm_iload_n C dX1_variable_114 rfl rfl ?_
        refine pm_iconst (v := 1) C dX1_variable_115 (by decide) ?_
        obtain ⟨k32, hf⟩ := pm_if hf
        obtain ⟨v33, e34, hf⟩ := pm_bd hf
        refine pm_callV (as := [.int 3, .int x2, .int 1]) (st := []) C X dX1_variable_116 lnX1_122 myX7_of viX7_of ⟨by decide, by decide⟩ rfl rfl k32 (Nat.le_of_ble_eq_true rfl) (Nat.le_refl _) (Nat.le_refl _) (ctX7_of e34 ?_)
        show pm_G g 119 [(4, .int s0), (0, .ref x0), (1, .int x1), (2, .int x2), (3, .int x3)] [.long v33] h 0 0
        refine pm_l2i C dX1_variable_119 ?_
        exact pm_sub [1, 2] rfl (bX1_variable_120 C X hf q)
      · have hf := pm_ie hf c28
        refine pm_aload_n C dX1_variable_98 rfl rfl ?_
        obtain ⟨k35, hf⟩ := pm_if hf
        obtain ⟨v36, e37, hf⟩ := pm_bd hf
        refine pm_getR C dX1_variable_99 flX1_22 rfl k35 e37 ?_
        refine pm_iload_n C dX1_variable_102 rfl rfl ?_
        obtain ⟨v38, e39, hf⟩ := pm_bd hf
        refine pm_callS (as := [.ref v36, .int x2]) (st := []) C X dX1_variable_103 lnX1_105 myX12_item stX12_item ⟨by decide, by decide⟩ rfl rfl (Nat.le_of_ble_eq_true rfl) (Nat.le_refl _) (Nat.le_refl _) (ctX12_item e39 ?_)
        show pm_G g 106 [(4, .int s0), (0, .ref x0), (1, .int x1), (2, .int x2), (3, .int x3)] [.int v38] h 0 0
        refine pm_goto (tgt := 120) C dX1_variable_106 (by decide) ?_
        exact pm_sub [1, 2] rfl (bX1_variable_120 C X hf q)
    · have hf := pm_ie hf c27
      refine pm_aload_n C dX1_variable_85 rfl rfl ?_
      refine pm_bipush (v := 30) C dX1_variable_86 (by decide) ?_
      obtain ⟨k40, hf⟩ := pm_if hf
      obtain ⟨v41, e42, hf⟩ := pm_bd hf
      refine pm_callV (as := [.int 30]) (st := []) C X dX1_variable_88 lnX1_198 myX1_fail viX1_fail ⟨by decide, by decide⟩ rfl rfl k40 (Nat.le_of_ble_eq_true rfl) (Nat.le_refl _) (Nat.le_refl _) (ctX1_fail e42 ?_)
      show pm_G g 91 [(4, .int s0), (0, .ref x0), (1, .int x1), (2, .int x2), (3, .int x3)] [] v41 0 0
      cases hf
      exact pm_vret C X dX1_variable_91 rfl (Nat.le_refl _) (Nat.le_refl _) q
set_option maxHeartbeats 4000000 in
set_option maxRecDepth 100000 in
theorem bX1_variable_73 {g : pm_Gm} {l : Launch} {G : pm_Gl} {Qr : Option Value → pm_H → Prop} (C : pm_C g cX1_variable RX1) (X : pm_X g l G mX1_variable 0 0 Qr) {h : pm_H} {x0 : Nat} {x1 : Int32} {x2 : Int32} {x3 : Int32} {r : pm_H} (hf : fX1_variable_b73 h x0 x1 x2 x3 = some r) (q : Qr none r) : pm_G g 73 [(0, .ref x0), (1, .int x1), (2, .int x2), (3, .int x3)] [] h 0 0 := by
  unfold fX1_variable_b73 at hf
  refine pm_iconst (v := 0) C dX1_variable_73 (by decide) ?_
  exact pm_sub [0, 1, 2, 3] rfl (bX1_variable_74 C X hf q)
set_option maxHeartbeats 4000000 in
set_option maxRecDepth 100000 in
theorem bX1_variable_43 {g : pm_Gm} {l : Launch} {G : pm_Gl} {Qr : Option Value → pm_H → Prop} (C : pm_C g cX1_variable RX1) (X : pm_X g l G mX1_variable 0 0 Qr) {h : pm_H} {x0 : Nat} {x1 : Int32} {x2 : Int32} {s0 : Int32} {r : pm_H} (hf : fX1_variable_b43 h x0 x1 x2 s0 = some r) (q : Qr none r) : pm_G g 43 [(0, .ref x0), (1, .int x1), (2, .int x2)] [.int s0] h 0 0 := by
  unfold fX1_variable_b43 at hf
  refine pm_istore_n (lv' := [(3, .int s0), (0, .ref x0), (1, .int x1), (2, .int x2)]) C dX1_variable_43 rfl (pm_nl X (by decide)) rfl ?_
  refine pm_iload_n C dX1_variable_44 rfl rfl ?_
  refine pm_bipush (v := 36) C dX1_variable_45 (by decide) ?_
  refine pm_icmp_ne (tgt := 73) C dX1_variable_47 (by decide) (fun c14 => ?_) (fun c14 => ?_)
  · have hf := pm_ie hf c14
    exact pm_sub [1, 2, 3, 0] rfl (bX1_variable_73 C X hf q)
  · have hf := pm_it hf c14
    refine pm_iload_n C dX1_variable_50 rfl rfl ?_
    refine pm_if_eq (tgt := 73) C dX1_variable_51 (by decide) (fun c15 => ?_) (fun c15 => ?_)
    · have hf := pm_it hf c15
      exact pm_sub [1, 2, 3, 0] rfl (bX1_variable_73 C X hf q)
    · have hf := pm_ie hf c15
      refine pm_aload_n C dX1_variable_54 rfl rfl ?_
      obtain ⟨k16, hf⟩ := pm_if hf
      obtain ⟨v17, e18, hf⟩ := pm_bd hf
      refine pm_getR C dX1_variable_55 flX1_40 rfl k16 e18 ?_
      refine pm_iconst (v := 3) C dX1_variable_58 (by decide) ?_
      refine pm_iload_n C dX1_variable_59 rfl rfl ?_
      refine pm_iconst (v := 2) C dX1_variable_60 (by decide) ?_
      obtain ⟨k19, hf⟩ := pm_if hf
      obtain ⟨v20, e21, hf⟩ := pm_bd hf
      refine pm_callV (as := [.int 3, .int x2, .int 2]) (st := []) C X dX1_variable_61 lnX1_122 myX7_of viX7_of ⟨by decide, by decide⟩ rfl rfl k19 (Nat.le_of_ble_eq_true rfl) (Nat.le_refl _) (Nat.le_refl _) (ctX7_of e21 ?_)
      show pm_G g 64 [(3, .int s0), (0, .ref x0), (1, .int x1), (2, .int x2)] [.long v20] h 0 0
      refine pm_lconst (v := 0) C dX1_variable_64 (by decide) ?_
      refine pm_lcmp C dX1_variable_65 ?_
      refine pm_if_ne (tgt := 73) C dX1_variable_66 (by decide) (fun c22 => ?_) (fun c22 => ?_)
      · have hf := pm_ie hf ((fun z => c22 ((pm_lg_eq _ _).mpr z)))
        exact pm_sub [1, 2, 3, 0] rfl (bX1_variable_73 C X hf q)
      · have hf := pm_it hf ((pm_lg_eq _ _).mp c22)
        refine pm_iconst (v := 1) C dX1_variable_69 (by decide) ?_
        refine pm_goto (tgt := 74) C dX1_variable_70 (by decide) ?_
        exact pm_sub [1, 2, 3, 0] rfl (bX1_variable_74 C X hf q)
set_option maxHeartbeats 4000000 in
set_option maxRecDepth 100000 in
theorem ctX1_variable {l : Launch} {G : pm_Gl} {h : pm_H} {a0 : Nat} {p1 : Int32} {r : pm_H} {Qr : Option Value → pm_H → Prop} (hf : fX1_variable h a0 p1 = some r) (q : Qr none r) : pm_Ct l G mX1_variable [.ref a0, .int p1] h 0 0 Qr := by
  refine pm_body pnX1 (Nat.le_of_ble_eq_true rfl) (fun g C X => ?_)
  have C : pm_C g cX1_variable RX1 := C
  show pm_G g 0 [(0, .ref a0), (1, .int p1)] [] h 0 0
  unfold fX1_variable at hf
  refine pm_aload_n C dX1_variable_0 rfl rfl ?_
  obtain ⟨k1, hf⟩ := pm_if hf
  obtain ⟨v2, e3, hf⟩ := pm_bd hf
  refine pm_getR C dX1_variable_1 flX1_36 rfl k1 e3 ?_
  obtain ⟨k4, hf⟩ := pm_if hf
  refine pm_getL C dX1_variable_4 flX1_201 rfl k4 rfl ?_
  obtain ⟨v5, e6, hf⟩ := pm_lt hf
  refine pm_callS (as := [.long (pm_L h v2 8)]) (st := []) C X dX1_variable_7 lnX1_418 myX12_index stX12_index ⟨by decide, by decide⟩ rfl rfl (Nat.le_of_ble_eq_true rfl) (Nat.le_refl _) (Nat.le_refl _) (ctX12_index e6 ?_)
  show pm_G g 10 [(0, .ref a0), (1, .int p1)] [.int v5] h 0 0
  refine pm_istore_n (lv' := [(2, .int v5), (0, .ref a0), (1, .int p1)]) C dX1_variable_10 rfl (pm_nl X (by decide)) rfl ?_
  refine pm_iload_n C dX1_variable_11 rfl rfl ?_
  refine pm_bipush (v := 34) C dX1_variable_12 (by decide) ?_
  refine pm_icmp_gt (tgt := 33) C dX1_variable_14 (by decide) (fun c7 => ?_) (fun c7 => ?_)
  · have hf := pm_it hf c7
    refine pm_aload_n C dX1_variable_33 rfl rfl ?_
    obtain ⟨v8, e9, hf⟩ := pm_bd hf
    refine pm_getR C dX1_variable_34 flX1_40 rfl k1 e9 ?_
    refine pm_iconst (v := 3) C dX1_variable_37 (by decide) ?_
    refine pm_iload_n C dX1_variable_38 rfl rfl ?_
    refine pm_i2l C dX1_variable_39 ?_
    obtain ⟨k10, hf⟩ := pm_if hf
    obtain ⟨v11, e12, hf⟩ := pm_bd hf
    refine pm_callV (as := [.int 3, .long v5.toInt64]) (st := []) C X dX1_variable_40 lnX1_146 myX7_has viX7_has ⟨by decide, by decide⟩ rfl rfl k10 (Nat.le_of_ble_eq_true rfl) (Nat.le_refl _) (Nat.le_refl _) (ctX7_has e12 ?_)
    show pm_G g 43 [(2, .int v5), (0, .ref a0), (1, .int p1)] [.int v11] h 0 0
    exact pm_sub [1, 2, 0] rfl (bX1_variable_43 C X hf q)
  · have hf := pm_ie hf c7
    refine pm_iload_n C dX1_variable_17 rfl rfl ?_
    refine pm_aload_n C dX1_variable_18 rfl rfl ?_
    refine pm_getI C dX1_variable_19 flX1_242 rfl k1 rfl ?_
    refine pm_icmp_ge (tgt := 29) C dX1_variable_22 (by decide) (fun c13 => ?_) (fun c13 => ?_)
    · have hf := pm_it hf c13
      refine pm_iconst (v := 0) C dX1_variable_29 (by decide) ?_
      refine pm_goto (tgt := 43) C dX1_variable_30 (by decide) ?_
      exact pm_sub [1, 2, 0] rfl (bX1_variable_43 C X hf q)
    · have hf := pm_ie hf c13
      refine pm_iconst (v := 1) C dX1_variable_25 (by decide) ?_
      refine pm_goto (tgt := 43) C dX1_variable_26 (by decide) ?_
      exact pm_sub [1, 2, 0] rfl (bX1_variable_43 C X hf q)
theorem dX2_branchByTable_0 : decode cX2_branchByTable 0 = .ok (.aload_n 0, 1) := by decide +kernel
theorem dX2_branchByTable_1 : decode cX2_branchByTable 1 = .ok (.bipush 14, 2) := by decide +kernel
theorem dX2_branchByTable_3 : decode cX2_branchByTable 3 = .ok (.iconst 1, 1) := by decide +kernel
theorem dX2_branchByTable_4 : decode cX2_branchByTable 4 = .ok (.invokevirtual 105, 3) := by decide +kernel
theorem dX2_branchByTable_7 : decode cX2_branchByTable 7 = .ok (.istore 4, 2) := by decide +kernel
theorem dX2_branchByTable_9 : decode cX2_branchByTable 9 = .ok (.aload_n 0, 1) := by decide +kernel
theorem dX2_branchByTable_10 : decode cX2_branchByTable 10 = .ok (.getfield 16, 3) := by decide +kernel
theorem dX2_branchByTable_13 : decode cX2_branchByTable 13 = .ok (.iload 4, 2) := by decide +kernel
theorem dX2_branchByTable_15 : decode cX2_branchByTable 15 = .ok (.iconst 3, 1) := by decide +kernel
theorem dX2_branchByTable_16 : decode cX2_branchByTable 16 = .ok (.iadd, 1) := by decide +kernel
theorem dX2_branchByTable_17 : decode cX2_branchByTable 17 = .ok (.aload_n 0, 1) := by decide +kernel
theorem dX2_branchByTable_18 : decode cX2_branchByTable 18 = .ok (.iload_n 3, 1) := by decide +kernel
theorem dX2_branchByTable_19 : decode cX2_branchByTable 19 = .ok (.iconst 1, 1) := by decide +kernel
theorem dX2_branchByTable_20 : decode cX2_branchByTable 20 = .ok (.isub, 1) := by decide +kernel
theorem dX2_branchByTable_21 : decode cX2_branchByTable 21 = .ok (.invokevirtual 130, 3) := by decide +kernel
theorem dX2_branchByTable_24 : decode cX2_branchByTable 24 = .ok (.invokestatic 101, 3) := by decide +kernel
theorem dX2_branchByTable_27 : decode cX2_branchByTable 27 = .ok (.aload_n 0, 1) := by decide +kernel
theorem dX2_branchByTable_28 : decode cX2_branchByTable 28 = .ok (.getfield 16, 3) := by decide +kernel
theorem dX2_branchByTable_31 : decode cX2_branchByTable 31 = .ok (.iload 4, 2) := by decide +kernel
theorem dX2_branchByTable_33 : decode cX2_branchByTable 33 = .ok (.bipush 6, 2) := by decide +kernel
theorem dX2_branchByTable_35 : decode cX2_branchByTable 35 = .ok (.iadd, 1) := by decide +kernel
theorem dX2_branchByTable_36 : decode cX2_branchByTable 36 = .ok (.iload_n 2, 1) := by decide +kernel
theorem dX2_branchByTable_37 : decode cX2_branchByTable 37 = .ok (.invokestatic 101, 3) := by decide +kernel
theorem dX2_branchByTable_40 : decode cX2_branchByTable 40 = .ok (.iconst 0, 1) := by decide +kernel
theorem dX2_branchByTable_41 : decode cX2_branchByTable 41 = .ok (.istore 5, 2) := by decide +kernel
theorem dX2_branchByTable_43 : decode cX2_branchByTable 43 = .ok (.iload 5, 2) := by decide +kernel
theorem dX2_branchByTable_45 : decode cX2_branchByTable 45 = .ok (.iload_n 2, 1) := by decide +kernel
theorem dX2_branchByTable_46 : decode cX2_branchByTable 46 = .ok (.if_icmp .gt 24, 3) := by decide +kernel
theorem dX2_branchByTable_49 : decode cX2_branchByTable 49 = .ok (.aload_n 0, 1) := by decide +kernel
theorem dX2_branchByTable_50 : decode cX2_branchByTable 50 = .ok (.iload_n 1, 1) := by decide +kernel
theorem dX2_branchByTable_51 : decode cX2_branchByTable 51 = .ok (.iconst 1, 1) := by decide +kernel
theorem dX2_branchByTable_52 : decode cX2_branchByTable 52 = .ok (.iadd, 1) := by decide +kernel
theorem dX2_branchByTable_53 : decode cX2_branchByTable 53 = .ok (.iload 5, 2) := by decide +kernel
theorem dX2_branchByTable_55 : decode cX2_branchByTable 55 = .ok (.iadd, 1) := by decide +kernel
theorem dX2_branchByTable_56 : decode cX2_branchByTable 56 = .ok (.iconst 0, 1) := by decide +kernel
theorem dX2_branchByTable_57 : decode cX2_branchByTable 57 = .ok (.iload_n 3, 1) := by decide +kernel
theorem dX2_branchByTable_58 : decode cX2_branchByTable 58 = .ok (.iconst 1, 1) := by decide +kernel
theorem dX2_branchByTable_59 : decode cX2_branchByTable 59 = .ok (.isub, 1) := by decide +kernel
theorem dX2_branchByTable_60 : decode cX2_branchByTable 60 = .ok (.invokevirtual 126, 3) := by decide +kernel
theorem dX2_branchByTable_63 : decode cX2_branchByTable 63 = .ok (.pop, 1) := by decide +kernel
theorem dX2_branchByTable_64 : decode cX2_branchByTable 64 = .ok (.iinc 5 1, 3) := by decide +kernel
theorem dX2_branchByTable_67 : decode cX2_branchByTable 67 = .ok (.goto (-24), 3) := by decide +kernel
theorem dX2_branchByTable_70 : decode cX2_branchByTable 70 = .ok (.aload_n 0, 1) := by decide +kernel
theorem dX2_branchByTable_71 : decode cX2_branchByTable 71 = .ok (.iconst 0, 1) := by decide +kernel
theorem dX2_branchByTable_72 : decode cX2_branchByTable 72 = .ok (.putfield 63, 3) := by decide +kernel
theorem dX2_branchByTable_75 : decode cX2_branchByTable 75 = .ok (.return_, 1) := by decide +kernel
def tX2_branchByTable_43 (x0 : Nat) (x1 : Int32) (x2 : Int32) (x3 : Int32) (x5 : Int32) (h : pm_H) : Option (((Nat × Int32 × Int32 × Int32 × Int32 × pm_H)) ⊕ pm_H) := if x2 < x5 then (if pm_kd h x0 = 2 then some (.inr (pm_setI h x0 12 0)) else none) else (if pm_kd h x0 = 2 then (fX2_branch h x0 ((x1 + 1) + x5) 0 (x3 - 1)).bind fun v19 => pm_let (x5 + 1) fun y21 => some (.inl ((x0, x1, x2, x3, y21, v19.2))) else none)
def sX2_branchByTable : ((Nat × Int32 × Int32 × Int32 × Int32 × pm_H)) → Option (((Nat × Int32 × Int32 × Int32 × Int32 × pm_H)) ⊕ pm_H) := fun z => match z with
  | (x0, x1, x2, x3, x5, h) => tX2_branchByTable_43 x0 x1 x2 x3 x5 h
noncomputable def fX2_branchByTable (h : pm_H) (a0 : Nat) (p1 : Int32) (p2 : Int32) (p3 : Int32) : Option pm_H := if pm_kd h a0 = 2 then (fX2_emit h a0 14 1).bind fun v2 => if pm_kd v2.2 a0 = 2 then (pm_R v2.2 a0 3).bind fun v5 => (fX2_heldAt v2.2 a0 (p3 - 1)).bind fun v7 => (fX12_setItem v2.2 v5 (v2.1 + 3) v7).bind fun v9 => if pm_kd v9 a0 = 2 then (pm_R v9 a0 3).bind fun v12 => (fX12_setItem v9 v12 (v2.1 + 6) p2).bind fun v14 => pm_lim sX2_branchByTable ((a0, p1, p2, p3, 0, v14)) else none else none else none
set_option maxHeartbeats 4000000 in
set_option maxRecDepth 100000 in
theorem lpX2_branchByTable {g : pm_Gm} {l : Launch} {G : pm_Gl} {Qr : Option Value → pm_H → Prop} (C : pm_C g cX2_branchByTable RX2) (X : pm_X g l G mX2_branchByTable 0 0 Qr) {r : pm_H} (q : Qr none r) : ∀ n : Nat, (∀ (x0 : Nat) (x1 : Int32) (x2 : Int32) (x3 : Int32) (x5 : Int32) (h : pm_H), pm_iter sX2_branchByTable n (x0, x1, x2, x3, x5, h) = some r → pm_G g 43 [(0, .ref x0), (1, .int x1), (2, .int x2), (3, .int x3), (5, .int x5)] [] h 0 0) := by
  intro n
  induction n with
  | zero => exact fun _ _ _ _ _ _ hf => (by cases hf)
  | succ n ih =>
    refine fun x0 x1 x2 x3 x5 h hf => ?_
    obtain ⟨y, hf, hi⟩ := pm_iter_s hf
    have hf : tX2_branchByTable_43 x0 x1 x2 x3 x5 h = some y := hf
    unfold tX2_branchByTable_43 at hf
    refine pm_iload C dX2_branchByTable_43 rfl ?_
    refine pm_iload_n C dX2_branchByTable_45 rfl rfl ?_
    refine pm_icmp_gt (tgt := 70) C dX2_branchByTable_46 (by decide) (fun c16 => ?_) (fun c16 => ?_)
    · have hf := pm_it hf c16
      refine pm_aload_n C dX2_branchByTable_70 rfl rfl ?_
      refine pm_iconst (v := 0) C dX2_branchByTable_71 (by decide) ?_
      obtain ⟨k17, hf⟩ := pm_if hf
      refine pm_putI C dX2_branchByTable_72 flX2_63 rfl rfl k17 (by decide) (by decide) ?_
      cases hf
      cases hi
      exact pm_vret C X dX2_branchByTable_75 rfl (Nat.le_refl _) (Nat.le_refl _) q
    · have hf := pm_ie hf c16
      refine pm_aload_n C dX2_branchByTable_49 rfl rfl ?_
      refine pm_iload_n C dX2_branchByTable_50 rfl rfl ?_
      refine pm_iconst (v := 1) C dX2_branchByTable_51 (by decide) ?_
      refine pm_iadd C dX2_branchByTable_52 ?_
      refine pm_iload C dX2_branchByTable_53 rfl ?_
      refine pm_iadd C dX2_branchByTable_55 ?_
      refine pm_iconst (v := 0) C dX2_branchByTable_56 (by decide) ?_
      refine pm_iload_n C dX2_branchByTable_57 rfl rfl ?_
      refine pm_iconst (v := 1) C dX2_branchByTable_58 (by decide) ?_
      refine pm_isub C dX2_branchByTable_59 ?_
      obtain ⟨k18, hf⟩ := pm_if hf
      obtain ⟨v19, e20, hf⟩ := pm_bd hf
      refine pm_callV (as := [.int ((x1 + 1) + x5), .int 0, .int (x3 - 1)]) (st := []) C X dX2_branchByTable_60 lnX2_126 myX2_branch viX2_branch ⟨by decide, by decide⟩ rfl rfl k18 (Nat.le_of_ble_eq_true rfl) (Nat.le_refl _) (Nat.le_refl _) (ctX2_branch e20 ?_)
      show pm_G g 63 [(0, .ref x0), (1, .int x1), (2, .int x2), (3, .int x3), (5, .int x5)] [.int v19.1] v19.2 0 0
      refine pm_pop C dX2_branchByTable_63 rfl ?_
      obtain ⟨y21, e22, hf⟩ := pm_lt hf
      refine pm_iinc (v := y21) (lv' := [(5, .int y21), (0, .ref x0), (1, .int x1), (2, .int x2), (3, .int x3)]) C dX2_branchByTable_64 rfl ((congrArg (x5 + ·) (by decide : Int32.ofInt 1 = 1)).trans e22) (pm_nl X (by decide)) rfl ?_
      refine pm_goto (tgt := 43) C dX2_branchByTable_67 (by decide) ?_
      cases hf
      exact pm_sub [1, 2, 3, 4, 0] rfl (ih x0 x1 x2 x3 y21 v19.2 hi)
set_option maxHeartbeats 4000000 in
set_option maxRecDepth 100000 in
theorem ctX2_branchByTable {l : Launch} {G : pm_Gl} {h : pm_H} {a0 : Nat} {p1 : Int32} {p2 : Int32} {p3 : Int32} {r : pm_H} {Qr : Option Value → pm_H → Prop} (hf : fX2_branchByTable h a0 p1 p2 p3 = some r) (q : Qr none r) : pm_Ct l G mX2_branchByTable [.ref a0, .int p1, .int p2, .int p3] h 0 0 Qr := by
  refine pm_body pnX2 (Nat.le_of_ble_eq_true rfl) (fun g C X => ?_)
  have C : pm_C g cX2_branchByTable RX2 := C
  show pm_G g 0 [(0, .ref a0), (1, .int p1), (2, .int p2), (3, .int p3)] [] h 0 0
  unfold fX2_branchByTable at hf
  refine pm_aload_n C dX2_branchByTable_0 rfl rfl ?_
  refine pm_bipush (v := 14) C dX2_branchByTable_1 (by decide) ?_
  refine pm_iconst (v := 1) C dX2_branchByTable_3 (by decide) ?_
  obtain ⟨k1, hf⟩ := pm_if hf
  obtain ⟨v2, e3, hf⟩ := pm_bd hf
  refine pm_callV (as := [.int 14, .int 1]) (st := []) C X dX2_branchByTable_4 lnX2_105 myX2_emit viX2_emit ⟨by decide, by decide⟩ rfl rfl k1 (Nat.le_of_ble_eq_true rfl) (Nat.le_refl _) (Nat.le_refl _) (ctX2_emit e3 ?_)
  show pm_G g 7 [(0, .ref a0), (1, .int p1), (2, .int p2), (3, .int p3)] [.int v2.1] v2.2 0 0
  refine pm_istore (lv' := [(4, .int v2.1), (0, .ref a0), (1, .int p1), (2, .int p2), (3, .int p3)]) C dX2_branchByTable_7 (pm_nl X (by decide)) rfl ?_
  refine pm_aload_n C dX2_branchByTable_9 rfl rfl ?_
  obtain ⟨k4, hf⟩ := pm_if hf
  obtain ⟨v5, e6, hf⟩ := pm_bd hf
  refine pm_getR C dX2_branchByTable_10 flX2_16 rfl k4 e6 ?_
  refine pm_iload C dX2_branchByTable_13 rfl ?_
  refine pm_iconst (v := 3) C dX2_branchByTable_15 (by decide) ?_
  refine pm_iadd C dX2_branchByTable_16 ?_
  refine pm_aload_n C dX2_branchByTable_17 rfl rfl ?_
  refine pm_iload_n C dX2_branchByTable_18 rfl rfl ?_
  refine pm_iconst (v := 1) C dX2_branchByTable_19 (by decide) ?_
  refine pm_isub C dX2_branchByTable_20 ?_
  obtain ⟨v7, e8, hf⟩ := pm_bd hf
  refine pm_callV (as := [.int (p3 - 1)]) (st := [.int (v2.1 + 3), .ref v5]) C X dX2_branchByTable_21 lnX2_130 myX2_heldAt viX2_heldAt ⟨by decide, by decide⟩ rfl rfl k4 (Nat.le_of_ble_eq_true rfl) (Nat.le_refl _) (Nat.le_refl _) (ctX2_heldAt e8 ?_)
  show pm_G g 24 [(4, .int v2.1), (0, .ref a0), (1, .int p1), (2, .int p2), (3, .int p3)] [.int v7, .int (v2.1 + 3), .ref v5] v2.2 0 0
  obtain ⟨v9, e10, hf⟩ := pm_bd hf
  refine pm_callS (as := [.ref v5, .int (v2.1 + 3), .int v7]) (st := []) C X dX2_branchByTable_24 lnX2_101 myX12_setItem stX12_setItem ⟨by decide, by decide⟩ rfl rfl (Nat.le_of_ble_eq_true rfl) (Nat.le_refl _) (Nat.le_refl _) (ctX12_setItem e10 ?_)
  show pm_G g 27 [(4, .int v2.1), (0, .ref a0), (1, .int p1), (2, .int p2), (3, .int p3)] [] v9 0 0
  refine pm_aload_n C dX2_branchByTable_27 rfl rfl ?_
  obtain ⟨k11, hf⟩ := pm_if hf
  obtain ⟨v12, e13, hf⟩ := pm_bd hf
  refine pm_getR C dX2_branchByTable_28 flX2_16 rfl k11 e13 ?_
  refine pm_iload C dX2_branchByTable_31 rfl ?_
  refine pm_bipush (v := 6) C dX2_branchByTable_33 (by decide) ?_
  refine pm_iadd C dX2_branchByTable_35 ?_
  refine pm_iload_n C dX2_branchByTable_36 rfl rfl ?_
  obtain ⟨v14, e15, hf⟩ := pm_bd hf
  refine pm_callS (as := [.ref v12, .int (v2.1 + 6), .int p2]) (st := []) C X dX2_branchByTable_37 lnX2_101 myX12_setItem stX12_setItem ⟨by decide, by decide⟩ rfl rfl (Nat.le_of_ble_eq_true rfl) (Nat.le_refl _) (Nat.le_refl _) (ctX12_setItem e15 ?_)
  show pm_G g 40 [(4, .int v2.1), (0, .ref a0), (1, .int p1), (2, .int p2), (3, .int p3)] [] v14 0 0
  refine pm_iconst (v := 0) C dX2_branchByTable_40 (by decide) ?_
  refine pm_istore (lv' := [(5, .int 0), (4, .int v2.1), (0, .ref a0), (1, .int p1), (2, .int p2), (3, .int p3)]) C dX2_branchByTable_41 (pm_nl X (by decide)) rfl ?_
  obtain ⟨n, hn⟩ := pm_lim_iter hf
  exact pm_sub [2, 3, 4, 5, 0] rfl ((lpX2_branchByTable C X q n) a0 p1 p2 p3 0 v14 hn)
theorem dX2_calling_0 : decode cX2_calling 0 = .ok (.iload_n 2, 1) := by decide +kernel
theorem dX2_calling_1 : decode cX2_calling 1 = .ok (.bipush 17, 2) := by decide +kernel
theorem dX2_calling_3 : decode cX2_calling 3 = .ok (.if_icmp .ne 9, 3) := by decide +kernel
theorem dX2_calling_6 : decode cX2_calling 6 = .ok (.iload_n 3, 1) := by decide +kernel
theorem dX2_calling_7 : decode cX2_calling 7 = .ok (.iconst 1, 1) := by decide +kernel
theorem dX2_calling_8 : decode cX2_calling 8 = .ok (.isub, 1) := by decide +kernel
theorem dX2_calling_9 : decode cX2_calling 9 = .ok (.goto 4, 3) := by decide +kernel
theorem dX2_calling_12 : decode cX2_calling 12 = .ok (.iload_n 3, 1) := by decide +kernel
theorem dX2_calling_13 : decode cX2_calling 13 = .ok (.istore 4, 2) := by decide +kernel
theorem dX2_calling_15 : decode cX2_calling 15 = .ok (.iload 4, 2) := by decide +kernel
theorem dX2_calling_17 : decode cX2_calling 17 = .ok (.aload_n 0, 1) := by decide +kernel
theorem dX2_calling_18 : decode cX2_calling 18 = .ok (.getfield 34, 3) := by decide +kernel
theorem dX2_calling_21 : decode cX2_calling 21 = .ok (.iload_n 1, 1) := by decide +kernel
theorem dX2_calling_22 : decode cX2_calling 22 = .ok (.iconst 3, 1) := by decide +kernel
theorem dX2_calling_23 : decode cX2_calling 23 = .ok (.invokevirtual 89, 3) := by decide +kernel
theorem dX2_calling_26 : decode cX2_calling 26 = .ok (.isub, 1) := by decide +kernel
theorem dX2_calling_27 : decode cX2_calling 27 = .ok (.istore 5, 2) := by decide +kernel
theorem dX2_calling_29 : decode cX2_calling 29 = .ok (.aload_n 0, 1) := by decide +kernel
theorem dX2_calling_30 : decode cX2_calling 30 = .ok (.iload_n 2, 1) := by decide +kernel
theorem dX2_calling_31 : decode cX2_calling 31 = .ok (.iconst 1, 1) := by decide +kernel
theorem dX2_calling_32 : decode cX2_calling 32 = .ok (.invokevirtual 105, 3) := by decide +kernel
theorem dX2_calling_35 : decode cX2_calling 35 = .ok (.istore 6, 2) := by decide +kernel
theorem dX2_calling_37 : decode cX2_calling 37 = .ok (.aload_n 0, 1) := by decide +kernel
theorem dX2_calling_38 : decode cX2_calling 38 = .ok (.getfield 16, 3) := by decide +kernel
theorem dX2_calling_41 : decode cX2_calling 41 = .ok (.iload 6, 2) := by decide +kernel
theorem dX2_calling_43 : decode cX2_calling 43 = .ok (.iconst 2, 1) := by decide +kernel
theorem dX2_calling_44 : decode cX2_calling 44 = .ok (.iadd, 1) := by decide +kernel
theorem dX2_calling_45 : decode cX2_calling 45 = .ok (.aload_n 0, 1) := by decide +kernel
theorem dX2_calling_46 : decode cX2_calling 46 = .ok (.getfield 50, 3) := by decide +kernel
theorem dX2_calling_49 : decode cX2_calling 49 = .ok (.iload 5, 2) := by decide +kernel
theorem dX2_calling_51 : decode cX2_calling 51 = .ok (.iadd, 1) := by decide +kernel
theorem dX2_calling_52 : decode cX2_calling 52 = .ok (.invokestatic 101, 3) := by decide +kernel
theorem dX2_calling_55 : decode cX2_calling 55 = .ok (.aload_n 0, 1) := by decide +kernel
theorem dX2_calling_56 : decode cX2_calling 56 = .ok (.getfield 16, 3) := by decide +kernel
theorem dX2_calling_59 : decode cX2_calling 59 = .ok (.iload 6, 2) := by decide +kernel
theorem dX2_calling_61 : decode cX2_calling 61 = .ok (.iconst 3, 1) := by decide +kernel
theorem dX2_calling_62 : decode cX2_calling 62 = .ok (.iadd, 1) := by decide +kernel
theorem dX2_calling_63 : decode cX2_calling 63 = .ok (.aload_n 0, 1) := by decide +kernel
theorem dX2_calling_64 : decode cX2_calling 64 = .ok (.iload_n 3, 1) := by decide +kernel
theorem dX2_calling_65 : decode cX2_calling 65 = .ok (.iconst 1, 1) := by decide +kernel
theorem dX2_calling_66 : decode cX2_calling 66 = .ok (.isub, 1) := by decide +kernel
theorem dX2_calling_67 : decode cX2_calling 67 = .ok (.invokevirtual 130, 3) := by decide +kernel
theorem dX2_calling_70 : decode cX2_calling 70 = .ok (.invokestatic 101, 3) := by decide +kernel
theorem dX2_calling_73 : decode cX2_calling 73 = .ok (.aload_n 0, 1) := by decide +kernel
theorem dX2_calling_74 : decode cX2_calling 74 = .ok (.getfield 16, 3) := by decide +kernel
theorem dX2_calling_77 : decode cX2_calling 77 = .ok (.iload 6, 2) := by decide +kernel
theorem dX2_calling_79 : decode cX2_calling 79 = .ok (.bipush 6, 2) := by decide +kernel
theorem dX2_calling_81 : decode cX2_calling 81 = .ok (.iadd, 1) := by decide +kernel
theorem dX2_calling_82 : decode cX2_calling 82 = .ok (.aload_n 0, 1) := by decide +kernel
theorem dX2_calling_83 : decode cX2_calling 83 = .ok (.getfield 34, 3) := by decide +kernel
theorem dX2_calling_86 : decode cX2_calling 86 = .ok (.iload_n 1, 1) := by decide +kernel
theorem dX2_calling_87 : decode cX2_calling 87 = .ok (.iconst 1, 1) := by decide +kernel
theorem dX2_calling_88 : decode cX2_calling 88 = .ok (.invokevirtual 89, 3) := by decide +kernel
theorem dX2_calling_91 : decode cX2_calling 91 = .ok (.invokestatic 101, 3) := by decide +kernel
theorem dX2_calling_94 : decode cX2_calling 94 = .ok (.aload_n 0, 1) := by decide +kernel
theorem dX2_calling_95 : decode cX2_calling 95 = .ok (.getfield 16, 3) := by decide +kernel
theorem dX2_calling_98 : decode cX2_calling 98 = .ok (.iload 6, 2) := by decide +kernel
theorem dX2_calling_100 : decode cX2_calling 100 = .ok (.bipush 7, 2) := by decide +kernel
theorem dX2_calling_102 : decode cX2_calling 102 = .ok (.iadd, 1) := by decide +kernel
theorem dX2_calling_103 : decode cX2_calling 103 = .ok (.aload_n 0, 1) := by decide +kernel
theorem dX2_calling_104 : decode cX2_calling 104 = .ok (.getfield 34, 3) := by decide +kernel
theorem dX2_calling_107 : decode cX2_calling 107 = .ok (.iload_n 1, 1) := by decide +kernel
theorem dX2_calling_108 : decode cX2_calling 108 = .ok (.iconst 2, 1) := by decide +kernel
theorem dX2_calling_109 : decode cX2_calling 109 = .ok (.invokevirtual 89, 3) := by decide +kernel
theorem dX2_calling_112 : decode cX2_calling 112 = .ok (.invokestatic 101, 3) := by decide +kernel
theorem dX2_calling_115 : decode cX2_calling 115 = .ok (.aload_n 0, 1) := by decide +kernel
theorem dX2_calling_116 : decode cX2_calling 116 = .ok (.getfield 34, 3) := by decide +kernel
theorem dX2_calling_119 : decode cX2_calling 119 = .ok (.iload_n 1, 1) := by decide +kernel
theorem dX2_calling_120 : decode cX2_calling 120 = .ok (.iconst 1, 1) := by decide +kernel
theorem dX2_calling_121 : decode cX2_calling 121 = .ok (.iadd, 1) := by decide +kernel
theorem dX2_calling_122 : decode cX2_calling 122 = .ok (.iconst 4, 1) := by decide +kernel
theorem dX2_calling_123 : decode cX2_calling 123 = .ok (.invokevirtual 89, 3) := by decide +kernel
theorem dX2_calling_126 : decode cX2_calling 126 = .ok (.istore 7, 2) := by decide +kernel
theorem dX2_calling_128 : decode cX2_calling 128 = .ok (.iload 5, 2) := by decide +kernel
theorem dX2_calling_130 : decode cX2_calling 130 = .ok (.istore 8, 2) := by decide +kernel
theorem dX2_calling_132 : decode cX2_calling 132 = .ok (.iload 8, 2) := by decide +kernel
theorem dX2_calling_134 : decode cX2_calling 134 = .ok (.iload 7, 2) := by decide +kernel
theorem dX2_calling_136 : decode cX2_calling 136 = .ok (.if_icmp .ge 25, 3) := by decide +kernel
theorem dX2_calling_139 : decode cX2_calling 139 = .ok (.aload_n 0, 1) := by decide +kernel
theorem dX2_calling_140 : decode cX2_calling 140 = .ok (.getfield 31, 3) := by decide +kernel
theorem dX2_calling_143 : decode cX2_calling 143 = .ok (.iload 8, 2) := by decide +kernel
theorem dX2_calling_145 : decode cX2_calling 145 = .ok (.aload_n 0, 1) := by decide +kernel
theorem dX2_calling_146 : decode cX2_calling 146 = .ok (.getfield 50, 3) := by decide +kernel
theorem dX2_calling_149 : decode cX2_calling 149 = .ok (.iload 8, 2) := by decide +kernel
theorem dX2_calling_151 : decode cX2_calling 151 = .ok (.iadd, 1) := by decide +kernel
theorem dX2_calling_152 : decode cX2_calling 152 = .ok (.invokestatic 101, 3) := by decide +kernel
theorem dX2_calling_155 : decode cX2_calling 155 = .ok (.iinc 8 1, 3) := by decide +kernel
theorem dX2_calling_158 : decode cX2_calling 158 = .ok (.goto (-26), 3) := by decide +kernel
theorem dX2_calling_161 : decode cX2_calling 161 = .ok (.return_, 1) := by decide +kernel
def tX2_calling_13 (x0 : Nat) (x1 : Int32) (x2 : Int32) (x3 : Int32) (s0 : Int32) (h : pm_H) : Option (((Nat × Int32 × Int32 × Int32 × Int32 × pm_H) ⊕ (Nat × Int32 × Int32 × pm_H)) ⊕ pm_H) := if pm_kd h x0 = 2 then (pm_R h x0 1).bind fun v3 => if pm_kd h v3 = 0 then (fX0_of h v3 x1 3).bind fun v6 => pm_let (s0 - v6) fun y8 => (fX2_emit h x0 x2 1).bind fun v10 => if pm_kd v10.2 x0 = 2 then (pm_R v10.2 x0 3).bind fun v13 => (fX12_setItem v10.2 v13 (v10.1 + 2) ((pm_I v10.2 x0 2) + y8)).bind fun v15 => if pm_kd v15 x0 = 2 then (pm_R v15 x0 3).bind fun v18 => (fX2_heldAt v15 x0 (x3 - 1)).bind fun v20 => (fX12_setItem v15 v18 (v10.1 + 3) v20).bind fun v22 => if pm_kd v22 x0 = 2 then (pm_R v22 x0 3).bind fun v25 => (pm_R v22 x0 1).bind fun v27 => if pm_kd v22 v27 = 0 then (fX0_of v22 v27 x1 1).bind fun v30 => (fX12_setItem v22 v25 (v10.1 + 6) v30).bind fun v32 => if pm_kd v32 x0 = 2 then (pm_R v32 x0 3).bind fun v35 => (pm_R v32 x0 1).bind fun v37 => if pm_kd v32 v37 = 0 then (fX0_of v32 v37 x1 2).bind fun v40 => (fX12_setItem v32 v35 (v10.1 + 7) v40).bind fun v42 => if pm_kd v42 x0 = 2 then (pm_R v42 x0 1).bind fun v45 => if pm_kd v42 v45 = 0 then (fX0_of v42 v45 (x1 + 1) 4).bind fun v48 => some (.inl (.inr ((x0, v48, y8, v42)))) else none else none else none else none else none else none else none else none else none else none
def tX2_calling_132 (x0 : Nat) (x7 : Int32) (x8 : Int32) (h : pm_H) : Option (((Nat × Int32 × Int32 × Int32 × Int32 × pm_H) ⊕ (Nat × Int32 × Int32 × pm_H)) ⊕ pm_H) := if x7 ≤ x8 then (some (.inr (h))) else (if pm_kd h x0 = 2 then (pm_R h x0 10).bind fun v52 => (fX12_setItem h v52 x8 ((pm_I h x0 2) + x8)).bind fun v54 => pm_let (x8 + 1) fun y56 => some (.inl (.inr ((x0, x7, y56, v54)))) else none)
def sX2_calling : ((Nat × Int32 × Int32 × Int32 × Int32 × pm_H) ⊕ (Nat × Int32 × Int32 × pm_H)) → Option (((Nat × Int32 × Int32 × Int32 × Int32 × pm_H) ⊕ (Nat × Int32 × Int32 × pm_H)) ⊕ pm_H) := fun z => match z with
  | .inl (x0, x1, x2, x3, s0, h) => tX2_calling_13 x0 x1 x2 x3 s0 h
  | .inr (x0, x7, x8, h) => tX2_calling_132 x0 x7 x8 h
noncomputable def fX2_calling (h : pm_H) (a0 : Nat) (p1 : Int32) (p2 : Int32) (p3 : Int32) : Option pm_H := if p2 = 17 then (pm_lim sX2_calling (.inl ((a0, p1, p2, p3, p3 - 1, h)))) else (pm_lim sX2_calling (.inl ((a0, p1, p2, p3, p3, h))))
set_option maxHeartbeats 4000000 in
set_option maxRecDepth 100000 in
theorem lpX2_calling {g : pm_Gm} {l : Launch} {G : pm_Gl} {Qr : Option Value → pm_H → Prop} (C : pm_C g cX2_calling RX2) (X : pm_X g l G mX2_calling 0 0 Qr) {r : pm_H} (q : Qr none r) : ∀ n : Nat, (∀ (x0 : Nat) (x1 : Int32) (x2 : Int32) (x3 : Int32) (s0 : Int32) (h : pm_H), pm_iter sX2_calling n (.inl (x0, x1, x2, x3, s0, h)) = some r → pm_G g 13 [(0, .ref x0), (1, .int x1), (2, .int x2), (3, .int x3)] [.int s0] h 0 0) ∧ (∀ (x0 : Nat) (x7 : Int32) (x8 : Int32) (h : pm_H), pm_iter sX2_calling n (.inr (x0, x7, x8, h)) = some r → pm_G g 132 [(0, .ref x0), (7, .int x7), (8, .int x8)] [] h 0 0) := by
  intro n
  induction n with
  | zero => exact ⟨fun _ _ _ _ _ _ hf => (by cases hf), fun _ _ _ _ hf => (by cases hf)⟩
  | succ n ih =>
    refine ⟨fun x0 x1 x2 x3 s0 h hf => ?_, ?_⟩
    · obtain ⟨y, hf, hi⟩ := pm_iter_s hf
      have hf : tX2_calling_13 x0 x1 x2 x3 s0 h = some y := hf
      unfold tX2_calling_13 at hf
      refine pm_istore (lv' := [(4, .int s0), (0, .ref x0), (1, .int x1), (2, .int x2), (3, .int x3)]) C dX2_calling_13 (pm_nl X (by decide)) rfl ?_
      refine pm_iload C dX2_calling_15 rfl ?_
      refine pm_aload_n C dX2_calling_17 rfl rfl ?_
      obtain ⟨k2, hf⟩ := pm_if hf
      obtain ⟨v3, e4, hf⟩ := pm_bd hf
      refine pm_getR C dX2_calling_18 flX2_34 rfl k2 e4 ?_
      refine pm_iload_n C dX2_calling_21 rfl rfl ?_
      refine pm_iconst (v := 3) C dX2_calling_22 (by decide) ?_
      obtain ⟨k5, hf⟩ := pm_if hf
      obtain ⟨v6, e7, hf⟩ := pm_bd hf
      refine pm_callV (as := [.int x1, .int 3]) (st := [.int s0]) C X dX2_calling_23 lnX2_89 myX0_of viX0_of ⟨by decide, by decide⟩ rfl rfl k5 (Nat.le_of_ble_eq_true rfl) (Nat.le_refl _) (Nat.le_refl _) (ctX0_of e7 ?_)
      show pm_G g 26 [(4, .int s0), (0, .ref x0), (1, .int x1), (2, .int x2), (3, .int x3)] [.int v6, .int s0] h 0 0
      refine pm_isub C dX2_calling_26 ?_
      obtain ⟨y8, e9, hf⟩ := pm_lt hf
      refine pm_topI e9 ?_
      refine pm_istore (lv' := [(5, .int y8), (4, .int s0), (0, .ref x0), (1, .int x1), (2, .int x2), (3, .int x3)]) C dX2_calling_27 (pm_nl X (by decide)) rfl ?_
      refine pm_aload_n C dX2_calling_29 rfl rfl ?_
      refine pm_iload_n C dX2_calling_30 rfl rfl ?_
      refine pm_iconst (v := 1) C dX2_calling_31 (by decide) ?_
      obtain ⟨v10, e11, hf⟩ := pm_bd hf
      refine pm_callV (as := [.int x2, .int 1]) (st := []) C X dX2_calling_32 lnX2_105 myX2_emit viX2_emit ⟨by decide, by decide⟩ rfl rfl k2 (Nat.le_of_ble_eq_true rfl) (Nat.le_refl _) (Nat.le_refl _) (ctX2_emit e11 ?_)
      show pm_G g 35 [(5, .int y8), (4, .int s0), (0, .ref x0), (1, .int x1), (2, .int x2), (3, .int x3)] [.int v10.1] v10.2 0 0
      refine pm_istore (lv' := [(6, .int v10.1), (5, .int y8), (4, .int s0), (0, .ref x0), (1, .int x1), (2, .int x2), (3, .int x3)]) C dX2_calling_35 (pm_nl X (by decide)) rfl ?_
      refine pm_aload_n C dX2_calling_37 rfl rfl ?_
      obtain ⟨k12, hf⟩ := pm_if hf
      obtain ⟨v13, e14, hf⟩ := pm_bd hf
      refine pm_getR C dX2_calling_38 flX2_16 rfl k12 e14 ?_
      refine pm_iload C dX2_calling_41 rfl ?_
      refine pm_iconst (v := 2) C dX2_calling_43 (by decide) ?_
      refine pm_iadd C dX2_calling_44 ?_
      refine pm_aload_n C dX2_calling_45 rfl rfl ?_
      refine pm_getI C dX2_calling_46 flX2_50 rfl k12 rfl ?_
      refine pm_iload C dX2_calling_49 rfl ?_
      refine pm_iadd C dX2_calling_51 ?_
      obtain ⟨v15, e16, hf⟩ := pm_bd hf
      refine pm_callS (as := [.ref v13, .int (v10.1 + 2), .int ((pm_I v10.2 x0 2) + y8)]) (st := []) C X dX2_calling_52 lnX2_101 myX12_setItem stX12_setItem ⟨by decide, by decide⟩ rfl rfl (Nat.le_of_ble_eq_true rfl) (Nat.le_refl _) (Nat.le_refl _) (ctX12_setItem e16 ?_)
      show pm_G g 55 [(6, .int v10.1), (5, .int y8), (4, .int s0), (0, .ref x0), (1, .int x1), (2, .int x2), (3, .int x3)] [] v15 0 0
      refine pm_aload_n C dX2_calling_55 rfl rfl ?_
      obtain ⟨k17, hf⟩ := pm_if hf
      obtain ⟨v18, e19, hf⟩ := pm_bd hf
      refine pm_getR C dX2_calling_56 flX2_16 rfl k17 e19 ?_
      refine pm_iload C dX2_calling_59 rfl ?_
      refine pm_iconst (v := 3) C dX2_calling_61 (by decide) ?_
      refine pm_iadd C dX2_calling_62 ?_
      refine pm_aload_n C dX2_calling_63 rfl rfl ?_
      refine pm_iload_n C dX2_calling_64 rfl rfl ?_
      refine pm_iconst (v := 1) C dX2_calling_65 (by decide) ?_
      refine pm_isub C dX2_calling_66 ?_
      obtain ⟨v20, e21, hf⟩ := pm_bd hf
      refine pm_callV (as := [.int (x3 - 1)]) (st := [.int (v10.1 + 3), .ref v18]) C X dX2_calling_67 lnX2_130 myX2_heldAt viX2_heldAt ⟨by decide, by decide⟩ rfl rfl k17 (Nat.le_of_ble_eq_true rfl) (Nat.le_refl _) (Nat.le_refl _) (ctX2_heldAt e21 ?_)
      show pm_G g 70 [(6, .int v10.1), (5, .int y8), (4, .int s0), (0, .ref x0), (1, .int x1), (2, .int x2), (3, .int x3)] [.int v20, .int (v10.1 + 3), .ref v18] v15 0 0
      obtain ⟨v22, e23, hf⟩ := pm_bd hf
      refine pm_callS (as := [.ref v18, .int (v10.1 + 3), .int v20]) (st := []) C X dX2_calling_70 lnX2_101 myX12_setItem stX12_setItem ⟨by decide, by decide⟩ rfl rfl (Nat.le_of_ble_eq_true rfl) (Nat.le_refl _) (Nat.le_refl _) (ctX12_setItem e23 ?_)
      show pm_G g 73 [(6, .int v10.1), (5, .int y8), (4, .int s0), (0, .ref x0), (1, .int x1), (2, .int x2), (3, .int x3)] [] v22 0 0
      refine pm_aload_n C dX2_calling_73 rfl rfl ?_
      obtain ⟨k24, hf⟩ := pm_if hf
      obtain ⟨v25, e26, hf⟩ := pm_bd hf
      refine pm_getR C dX2_calling_74 flX2_16 rfl k24 e26 ?_
      refine pm_iload C dX2_calling_77 rfl ?_
      refine pm_bipush (v := 6) C dX2_calling_79 (by decide) ?_
      refine pm_iadd C dX2_calling_81 ?_
      refine pm_aload_n C dX2_calling_82 rfl rfl ?_
      obtain ⟨v27, e28, hf⟩ := pm_bd hf
      refine pm_getR C dX2_calling_83 flX2_34 rfl k24 e28 ?_
      refine pm_iload_n C dX2_calling_86 rfl rfl ?_
      refine pm_iconst (v := 1) C dX2_calling_87 (by decide) ?_
      obtain ⟨k29, hf⟩ := pm_if hf
      obtain ⟨v30, e31, hf⟩ := pm_bd hf
      refine pm_callV (as := [.int x1, .int 1]) (st := [.int (v10.1 + 6), .ref v25]) C X dX2_calling_88 lnX2_89 myX0_of viX0_of ⟨by decide, by decide⟩ rfl rfl k29 (Nat.le_of_ble_eq_true rfl) (Nat.le_refl _) (Nat.le_refl _) (ctX0_of e31 ?_)
      show pm_G g 91 [(6, .int v10.1), (5, .int y8), (4, .int s0), (0, .ref x0), (1, .int x1), (2, .int x2), (3, .int x3)] [.int v30, .int (v10.1 + 6), .ref v25] v22 0 0
      obtain ⟨v32, e33, hf⟩ := pm_bd hf
      refine pm_callS (as := [.ref v25, .int (v10.1 + 6), .int v30]) (st := []) C X dX2_calling_91 lnX2_101 myX12_setItem stX12_setItem ⟨by decide, by decide⟩ rfl rfl (Nat.le_of_ble_eq_true rfl) (Nat.le_refl _) (Nat.le_refl _) (ctX12_setItem e33 ?_)
      show pm_G g 94 [(6, .int v10.1), (5, .int y8), (4, .int s0), (0, .ref x0), (1, .int x1), (2, .int x2), (3, .int x3)] [] v32 0 0
      refine pm_aload_n C dX2_calling_94 rfl rfl ?_
      obtain ⟨k34, hf⟩ := pm_if hf
      obtain ⟨v35, e36, hf⟩ := pm_bd hf
      refine pm_getR C dX2_calling_95 flX2_16 rfl k34 e36 ?_
      refine pm_iload C dX2_calling_98 rfl ?_
      refine pm_bipush (v := 7) C dX2_calling_100 (by decide) ?_
      refine pm_iadd C dX2_calling_102 ?_
      refine pm_aload_n C dX2_calling_103 rfl rfl ?_
      obtain ⟨v37, e38, hf⟩ := pm_bd hf
      refine pm_getR C dX2_calling_104 flX2_34 rfl k34 e38 ?_
      refine pm_iload_n C dX2_calling_107 rfl rfl ?_
      refine pm_iconst (v := 2) C dX2_calling_108 (by decide) ?_
      obtain ⟨k39, hf⟩ := pm_if hf
      obtain ⟨v40, e41, hf⟩ := pm_bd hf
      refine pm_callV (as := [.int x1, .int 2]) (st := [.int (v10.1 + 7), .ref v35]) C X dX2_calling_109 lnX2_89 myX0_of viX0_of ⟨by decide, by decide⟩ rfl rfl k39 (Nat.le_of_ble_eq_true rfl) (Nat.le_refl _) (Nat.le_refl _) (ctX0_of e41 ?_)
      show pm_G g 112 [(6, .int v10.1), (5, .int y8), (4, .int s0), (0, .ref x0), (1, .int x1), (2, .int x2), (3, .int x3)] [.int v40, .int (v10.1 + 7), .ref v35] v32 0 0
      obtain ⟨v42, e43, hf⟩ := pm_bd hf
      refine pm_callS (as := [.ref v35, .int (v10.1 + 7), .int v40]) (st := []) C X dX2_calling_112 lnX2_101 myX12_setItem stX12_setItem ⟨by decide, by decide⟩ rfl rfl (Nat.le_of_ble_eq_true rfl) (Nat.le_refl _) (Nat.le_refl _) (ctX12_setItem e43 ?_)
      show pm_G g 115 [(6, .int v10.1), (5, .int y8), (4, .int s0), (0, .ref x0), (1, .int x1), (2, .int x2), (3, .int x3)] [] v42 0 0
      refine pm_aload_n C dX2_calling_115 rfl rfl ?_
      obtain ⟨k44, hf⟩ := pm_if hf
      obtain ⟨v45, e46, hf⟩ := pm_bd hf
      refine pm_getR C dX2_calling_116 flX2_34 rfl k44 e46 ?_
      refine pm_iload_n C dX2_calling_119 rfl rfl ?_
      refine pm_iconst (v := 1) C dX2_calling_120 (by decide) ?_
      refine pm_iadd C dX2_calling_121 ?_
      refine pm_iconst (v := 4) C dX2_calling_122 (by decide) ?_
      obtain ⟨k47, hf⟩ := pm_if hf
      obtain ⟨v48, e49, hf⟩ := pm_bd hf
      refine pm_callV (as := [.int (x1 + 1), .int 4]) (st := []) C X dX2_calling_123 lnX2_89 myX0_of viX0_of ⟨by decide, by decide⟩ rfl rfl k47 (Nat.le_of_ble_eq_true rfl) (Nat.le_refl _) (Nat.le_refl _) (ctX0_of e49 ?_)
      show pm_G g 126 [(6, .int v10.1), (5, .int y8), (4, .int s0), (0, .ref x0), (1, .int x1), (2, .int x2), (3, .int x3)] [.int v48] v42 0 0
      refine pm_istore (lv' := [(7, .int v48), (6, .int v10.1), (5, .int y8), (4, .int s0), (0, .ref x0), (1, .int x1), (2, .int x2), (3, .int x3)]) C dX2_calling_126 (pm_nl X (by decide)) rfl ?_
      refine pm_iload C dX2_calling_128 rfl ?_
      refine pm_istore (lv' := [(8, .int y8), (7, .int v48), (6, .int v10.1), (5, .int y8), (4, .int s0), (0, .ref x0), (1, .int x1), (2, .int x2), (3, .int x3)]) C dX2_calling_130 (pm_nl X (by decide)) rfl ?_
      cases hf
      exact pm_sub [5, 1, 0] rfl (ih.2 x0 v48 y8 v42 hi)
    refine fun x0 x7 x8 h hf => ?_
    obtain ⟨y, hf, hi⟩ := pm_iter_s hf
    have hf : tX2_calling_132 x0 x7 x8 h = some y := hf
    unfold tX2_calling_132 at hf
    refine pm_iload C dX2_calling_132 rfl ?_
    refine pm_iload C dX2_calling_134 rfl ?_
    refine pm_icmp_ge (tgt := 161) C dX2_calling_136 (by decide) (fun c50 => ?_) (fun c50 => ?_)
    · have hf := pm_it hf c50
      cases hf
      cases hi
      exact pm_vret C X dX2_calling_161 rfl (Nat.le_refl _) (Nat.le_refl _) q
    · have hf := pm_ie hf c50
      refine pm_aload_n C dX2_calling_139 rfl rfl ?_
      obtain ⟨k51, hf⟩ := pm_if hf
      obtain ⟨v52, e53, hf⟩ := pm_bd hf
      refine pm_getR C dX2_calling_140 flX2_31 rfl k51 e53 ?_
      refine pm_iload C dX2_calling_143 rfl ?_
      refine pm_aload_n C dX2_calling_145 rfl rfl ?_
      refine pm_getI C dX2_calling_146 flX2_50 rfl k51 rfl ?_
      refine pm_iload C dX2_calling_149 rfl ?_
      refine pm_iadd C dX2_calling_151 ?_
      obtain ⟨v54, e55, hf⟩ := pm_bd hf
      refine pm_callS (as := [.ref v52, .int x8, .int ((pm_I h x0 2) + x8)]) (st := []) C X dX2_calling_152 lnX2_101 myX12_setItem stX12_setItem ⟨by decide, by decide⟩ rfl rfl (Nat.le_of_ble_eq_true rfl) (Nat.le_refl _) (Nat.le_refl _) (ctX12_setItem e55 ?_)
      show pm_G g 155 [(0, .ref x0), (7, .int x7), (8, .int x8)] [] v54 0 0
      obtain ⟨y56, e57, hf⟩ := pm_lt hf
      refine pm_iinc (v := y56) (lv' := [(8, .int y56), (0, .ref x0), (7, .int x7)]) C dX2_calling_155 rfl ((congrArg (x8 + ·) (by decide : Int32.ofInt 1 = 1)).trans e57) (pm_nl X (by decide)) rfl ?_
      refine pm_goto (tgt := 132) C dX2_calling_158 (by decide) ?_
      cases hf
      exact pm_sub [1, 2, 0] rfl (ih.2 x0 x7 y56 v54 hi)
set_option maxHeartbeats 4000000 in
set_option maxRecDepth 100000 in
theorem ctX2_calling {l : Launch} {G : pm_Gl} {h : pm_H} {a0 : Nat} {p1 : Int32} {p2 : Int32} {p3 : Int32} {r : pm_H} {Qr : Option Value → pm_H → Prop} (hf : fX2_calling h a0 p1 p2 p3 = some r) (q : Qr none r) : pm_Ct l G mX2_calling [.ref a0, .int p1, .int p2, .int p3] h 0 0 Qr := by
  refine pm_body pnX2 (Nat.le_of_ble_eq_true rfl) (fun g C X => ?_)
  have C : pm_C g cX2_calling RX2 := C
  show pm_G g 0 [(0, .ref a0), (1, .int p1), (2, .int p2), (3, .int p3)] [] h 0 0
  unfold fX2_calling at hf
  refine pm_iload_n C dX2_calling_0 rfl rfl ?_
  refine pm_bipush (v := 17) C dX2_calling_1 (by decide) ?_
  refine pm_icmp_ne (tgt := 12) C dX2_calling_3 (by decide) (fun c1 => ?_) (fun c1 => ?_)
  · have hf := pm_ie hf c1
    refine pm_iload_n C dX2_calling_12 rfl rfl ?_
    obtain ⟨n, hn⟩ := pm_lim_iter hf
    exact pm_sub [0, 1, 2, 3] rfl ((lpX2_calling C X q n).1 a0 p1 p2 p3 p3 h hn)
  · have hf := pm_it hf c1
    refine pm_iload_n C dX2_calling_6 rfl rfl ?_
    refine pm_iconst (v := 1) C dX2_calling_7 (by decide) ?_
    refine pm_isub C dX2_calling_8 ?_
    refine pm_goto (tgt := 13) C dX2_calling_9 (by decide) ?_
    obtain ⟨n, hn⟩ := pm_lim_iter hf
    exact pm_sub [0, 1, 2, 3] rfl ((lpX2_calling C X q n).1 a0 p1 p2 p3 (p3 - 1) h hn)
theorem dX2_condition_0 : decode cX2_condition 0 = .ok (.aload_n 0, 1) := by decide +kernel
theorem dX2_condition_1 : decode cX2_condition 1 = .ok (.iconst 4, 1) := by decide +kernel
theorem dX2_condition_2 : decode cX2_condition 2 = .ok (.iconst 1, 1) := by decide +kernel
theorem dX2_condition_3 : decode cX2_condition 3 = .ok (.invokevirtual 105, 3) := by decide +kernel
theorem dX2_condition_6 : decode cX2_condition 6 = .ok (.istore_n 3, 1) := by decide +kernel
theorem dX2_condition_7 : decode cX2_condition 7 = .ok (.aload_n 0, 1) := by decide +kernel
theorem dX2_condition_8 : decode cX2_condition 8 = .ok (.getfield 16, 3) := by decide +kernel
theorem dX2_condition_11 : decode cX2_condition 11 = .ok (.iload_n 3, 1) := by decide +kernel
theorem dX2_condition_12 : decode cX2_condition 12 = .ok (.iconst 3, 1) := by decide +kernel
theorem dX2_condition_13 : decode cX2_condition 13 = .ok (.iadd, 1) := by decide +kernel
theorem dX2_condition_14 : decode cX2_condition 14 = .ok (.aload_n 0, 1) := by decide +kernel
theorem dX2_condition_15 : decode cX2_condition 15 = .ok (.iload_n 2, 1) := by decide +kernel
theorem dX2_condition_16 : decode cX2_condition 16 = .ok (.iconst 1, 1) := by decide +kernel
theorem dX2_condition_17 : decode cX2_condition 17 = .ok (.isub, 1) := by decide +kernel
theorem dX2_condition_18 : decode cX2_condition 18 = .ok (.invokevirtual 130, 3) := by decide +kernel
theorem dX2_condition_21 : decode cX2_condition 21 = .ok (.invokestatic 101, 3) := by decide +kernel
theorem dX2_condition_24 : decode cX2_condition 24 = .ok (.aload_n 0, 1) := by decide +kernel
theorem dX2_condition_25 : decode cX2_condition 25 = .ok (.getfield 16, 3) := by decide +kernel
theorem dX2_condition_28 : decode cX2_condition 28 = .ok (.iload_n 3, 1) := by decide +kernel
theorem dX2_condition_29 : decode cX2_condition 29 = .ok (.bipush 6, 2) := by decide +kernel
theorem dX2_condition_31 : decode cX2_condition 31 = .ok (.iadd, 1) := by decide +kernel
theorem dX2_condition_32 : decode cX2_condition 32 = .ok (.iload_n 1, 1) := by decide +kernel
theorem dX2_condition_33 : decode cX2_condition 33 = .ok (.invokestatic 101, 3) := by decide +kernel
theorem dX2_condition_36 : decode cX2_condition 36 = .ok (.return_, 1) := by decide +kernel
def fX2_condition (h : pm_H) (a0 : Nat) (p1 : Int32) (p2 : Int32) : Option pm_H := if pm_kd h a0 = 2 then (fX2_emit h a0 4 1).bind fun v2 => if pm_kd v2.2 a0 = 2 then (pm_R v2.2 a0 3).bind fun v5 => (fX2_heldAt v2.2 a0 (p2 - 1)).bind fun v7 => (fX12_setItem v2.2 v5 (v2.1 + 3) v7).bind fun v9 => if pm_kd v9 a0 = 2 then (pm_R v9 a0 3).bind fun v12 => (fX12_setItem v9 v12 (v2.1 + 6) p1).bind fun v14 => some v14 else none else none else none
set_option maxHeartbeats 4000000 in
set_option maxRecDepth 100000 in
theorem ctX2_condition {l : Launch} {G : pm_Gl} {h : pm_H} {a0 : Nat} {p1 : Int32} {p2 : Int32} {r : pm_H} {Qr : Option Value → pm_H → Prop} (hf : fX2_condition h a0 p1 p2 = some r) (q : Qr none r) : pm_Ct l G mX2_condition [.ref a0, .int p1, .int p2] h 0 0 Qr := by
  refine pm_body pnX2 (Nat.le_of_ble_eq_true rfl) (fun g C X => ?_)
  have C : pm_C g cX2_condition RX2 := C
  show pm_G g 0 [(0, .ref a0), (1, .int p1), (2, .int p2)] [] h 0 0
  unfold fX2_condition at hf
  refine pm_aload_n C dX2_condition_0 rfl rfl ?_
  refine pm_iconst (v := 4) C dX2_condition_1 (by decide) ?_
  refine pm_iconst (v := 1) C dX2_condition_2 (by decide) ?_
  obtain ⟨k1, hf⟩ := pm_if hf
  obtain ⟨v2, e3, hf⟩ := pm_bd hf
  refine pm_callV (as := [.int 4, .int 1]) (st := []) C X dX2_condition_3 lnX2_105 myX2_emit viX2_emit ⟨by decide, by decide⟩ rfl rfl k1 (Nat.le_of_ble_eq_true rfl) (Nat.le_refl _) (Nat.le_refl _) (ctX2_emit e3 ?_)
  show pm_G g 6 [(0, .ref a0), (1, .int p1), (2, .int p2)] [.int v2.1] v2.2 0 0
  refine pm_istore_n (lv' := [(3, .int v2.1), (0, .ref a0), (1, .int p1), (2, .int p2)]) C dX2_condition_6 rfl (pm_nl X (by decide)) rfl ?_
  refine pm_aload_n C dX2_condition_7 rfl rfl ?_
  obtain ⟨k4, hf⟩ := pm_if hf
  obtain ⟨v5, e6, hf⟩ := pm_bd hf
  refine pm_getR C dX2_condition_8 flX2_16 rfl k4 e6 ?_
  refine pm_iload_n C dX2_condition_11 rfl rfl ?_
  refine pm_iconst (v := 3) C dX2_condition_12 (by decide) ?_
  refine pm_iadd C dX2_condition_13 ?_
  refine pm_aload_n C dX2_condition_14 rfl rfl ?_
  refine pm_iload_n C dX2_condition_15 rfl rfl ?_
  refine pm_iconst (v := 1) C dX2_condition_16 (by decide) ?_
  refine pm_isub C dX2_condition_17 ?_
  obtain ⟨v7, e8, hf⟩ := pm_bd hf
  refine pm_callV (as := [.int (p2 - 1)]) (st := [.int (v2.1 + 3), .ref v5]) C X dX2_condition_18 lnX2_130 myX2_heldAt viX2_heldAt ⟨by decide, by decide⟩ rfl rfl k4 (Nat.le_of_ble_eq_true rfl) (Nat.le_refl _) (Nat.le_refl _) (ctX2_heldAt e8 ?_)
  show pm_G g 21 [(3, .int v2.1), (0, .ref a0), (1, .int p1), (2, .int p2)] [.int v7, .int (v2.1 + 3), .ref v5] v2.2 0 0
  obtain ⟨v9, e10, hf⟩ := pm_bd hf
  refine pm_callS (as := [.ref v5, .int (v2.1 + 3), .int v7]) (st := []) C X dX2_condition_21 lnX2_101 myX12_setItem stX12_setItem ⟨by decide, by decide⟩ rfl rfl (Nat.le_of_ble_eq_true rfl) (Nat.le_refl _) (Nat.le_refl _) (ctX12_setItem e10 ?_)
  show pm_G g 24 [(3, .int v2.1), (0, .ref a0), (1, .int p1), (2, .int p2)] [] v9 0 0
  refine pm_aload_n C dX2_condition_24 rfl rfl ?_
  obtain ⟨k11, hf⟩ := pm_if hf
  obtain ⟨v12, e13, hf⟩ := pm_bd hf
  refine pm_getR C dX2_condition_25 flX2_16 rfl k11 e13 ?_
  refine pm_iload_n C dX2_condition_28 rfl rfl ?_
  refine pm_bipush (v := 6) C dX2_condition_29 (by decide) ?_
  refine pm_iadd C dX2_condition_31 ?_
  refine pm_iload_n C dX2_condition_32 rfl rfl ?_
  obtain ⟨v14, e15, hf⟩ := pm_bd hf
  refine pm_callS (as := [.ref v12, .int (v2.1 + 6), .int p1]) (st := []) C X dX2_condition_33 lnX2_101 myX12_setItem stX12_setItem ⟨by decide, by decide⟩ rfl rfl (Nat.le_of_ble_eq_true rfl) (Nat.le_refl _) (Nat.le_refl _) (ctX12_setItem e15 ?_)
  show pm_G g 36 [(3, .int v2.1), (0, .ref a0), (1, .int p1), (2, .int p2)] [] v14 0 0
  cases hf
  exact pm_vret C X dX2_condition_36 rfl (Nat.le_refl _) (Nat.le_refl _) q
theorem dX2_translate_0 : decode cX2_translate 0 = .ok (.aload_n 0, 1) := by decide +kernel
theorem dX2_translate_1 : decode cX2_translate 1 = .ok (.getfield 34, 3) := by decide +kernel
theorem dX2_translate_4 : decode cX2_translate 4 = .ok (.iload_n 1, 1) := by decide +kernel
theorem dX2_translate_5 : decode cX2_translate 5 = .ok (.iconst 0, 1) := by decide +kernel
theorem dX2_translate_6 : decode cX2_translate 6 = .ok (.invokevirtual 89, 3) := by decide +kernel
theorem dX2_translate_9 : decode cX2_translate 9 = .ok (.istore_n 2, 1) := by decide +kernel
theorem dX2_translate_10 : decode cX2_translate 10 = .ok (.aload_n 0, 1) := by decide +kernel
theorem dX2_translate_11 : decode cX2_translate 11 = .ok (.getfield 34, 3) := by decide +kernel
theorem dX2_translate_14 : decode cX2_translate 14 = .ok (.iload_n 1, 1) := by decide +kernel
theorem dX2_translate_15 : decode cX2_translate 15 = .ok (.iconst 1, 1) := by decide +kernel
theorem dX2_translate_16 : decode cX2_translate 16 = .ok (.invokevirtual 89, 3) := by decide +kernel
theorem dX2_translate_19 : decode cX2_translate 19 = .ok (.istore_n 3, 1) := by decide +kernel
theorem dX2_translate_20 : decode cX2_translate 20 = .ok (.aload_n 0, 1) := by decide +kernel
theorem dX2_translate_21 : decode cX2_translate 21 = .ok (.getfield 34, 3) := by decide +kernel
theorem dX2_translate_24 : decode cX2_translate 24 = .ok (.iload_n 1, 1) := by decide +kernel
theorem dX2_translate_25 : decode cX2_translate 25 = .ok (.iconst 4, 1) := by decide +kernel
theorem dX2_translate_26 : decode cX2_translate 26 = .ok (.invokevirtual 89, 3) := by decide +kernel
theorem dX2_translate_29 : decode cX2_translate 29 = .ok (.istore 4, 2) := by decide +kernel
theorem dX2_translate_31 : decode cX2_translate 31 = .ok (.aload_n 0, 1) := by decide +kernel
theorem dX2_translate_32 : decode cX2_translate 32 = .ok (.getfield 63, 3) := by decide +kernel
theorem dX2_translate_35 : decode cX2_translate 35 = .ok (.ifCond .ne 12, 3) := by decide +kernel
theorem dX2_translate_38 : decode cX2_translate 38 = .ok (.aload_n 0, 1) := by decide +kernel
theorem dX2_translate_39 : decode cX2_translate 39 = .ok (.iload 4, 2) := by decide +kernel
theorem dX2_translate_41 : decode cX2_translate 41 = .ok (.invokevirtual 112, 3) := by decide +kernel
theorem dX2_translate_44 : decode cX2_translate 44 = .ok (.goto 41, 3) := by decide +kernel
theorem dX2_translate_47 : decode cX2_translate 47 = .ok (.iload_n 1, 1) := by decide +kernel
theorem dX2_translate_48 : decode cX2_translate 48 = .ok (.aload_n 0, 1) := by decide +kernel
theorem dX2_translate_49 : decode cX2_translate 49 = .ok (.getfield 27, 3) := by decide +kernel
theorem dX2_translate_52 : decode cX2_translate 52 = .ok (.arraylength, 1) := by decide +kernel
theorem dX2_translate_53 : decode cX2_translate 53 = .ok (.if_icmp .ge 32, 3) := by decide +kernel
theorem dX2_translate_56 : decode cX2_translate 56 = .ok (.aload_n 0, 1) := by decide +kernel
theorem dX2_translate_57 : decode cX2_translate 57 = .ok (.getfield 27, 3) := by decide +kernel
theorem dX2_translate_60 : decode cX2_translate 60 = .ok (.iload_n 1, 1) := by decide +kernel
theorem dX2_translate_61 : decode cX2_translate 61 = .ok (.baload, 1) := by decide +kernel
theorem dX2_translate_62 : decode cX2_translate 62 = .ok (.ifCond .eq 23, 3) := by decide +kernel
theorem dX2_translate_65 : decode cX2_translate 65 = .ok (.aload_n 0, 1) := by decide +kernel
theorem dX2_translate_66 : decode cX2_translate 66 = .ok (.iload 4, 2) := by decide +kernel
theorem dX2_translate_68 : decode cX2_translate 68 = .ok (.invokevirtual 116, 3) := by decide +kernel
theorem dX2_translate_71 : decode cX2_translate 71 = .ok (.aload_n 0, 1) := by decide +kernel
theorem dX2_translate_72 : decode cX2_translate 72 = .ok (.getfield 57, 3) := by decide +kernel
theorem dX2_translate_75 : decode cX2_translate 75 = .ok (.ifCond .le 10, 3) := by decide +kernel
theorem dX2_translate_78 : decode cX2_translate 78 = .ok (.aload_n 0, 1) := by decide +kernel
theorem dX2_translate_79 : decode cX2_translate 79 = .ok (.iconst 1, 1) := by decide +kernel
theorem dX2_translate_80 : decode cX2_translate 80 = .ok (.iconst 0, 1) := by decide +kernel
theorem dX2_translate_81 : decode cX2_translate 81 = .ok (.invokevirtual 105, 3) := by decide +kernel
theorem dX2_translate_84 : decode cX2_translate 84 = .ok (.pop, 1) := by decide +kernel
theorem dX2_translate_85 : decode cX2_translate 85 = .ok (.aload_n 0, 1) := by decide +kernel
theorem dX2_translate_86 : decode cX2_translate 86 = .ok (.getfield 24, 3) := by decide +kernel
theorem dX2_translate_89 : decode cX2_translate 89 = .ok (.iload_n 1, 1) := by decide +kernel
theorem dX2_translate_90 : decode cX2_translate 90 = .ok (.aload_n 0, 1) := by decide +kernel
theorem dX2_translate_91 : decode cX2_translate 91 = .ok (.getfield 51, 3) := by decide +kernel
theorem dX2_translate_94 : decode cX2_translate 94 = .ok (.invokestatic 101, 3) := by decide +kernel
theorem dX2_translate_97 : decode cX2_translate 97 = .ok (.aload_n 0, 1) := by decide +kernel
theorem dX2_translate_98 : decode cX2_translate 98 = .ok (.iload_n 2, 1) := by decide +kernel
theorem dX2_translate_99 : decode cX2_translate 99 = .ok (.iload 4, 2) := by decide +kernel
theorem dX2_translate_101 : decode cX2_translate 101 = .ok (.invokestatic 119, 3) := by decide +kernel
theorem dX2_translate_104 : decode cX2_translate 104 = .ok (.invokevirtual 116, 3) := by decide +kernel
theorem dX2_translate_107 : decode cX2_translate 107 = .ok (.iload_n 2, 1) := by decide +kernel
theorem dX2_translate_108 : decode cX2_translate 108 = .ok (.lookupswitch 272 #[(1, 124), (4, 137), (5, 147), (11, 147), (12, 172), (13, 189), (14, 219), (16, 231), (17, 231), (26, 124), (32, 242), (33, 252), (34, 252), (65, 262)], 124) := by decide +kernel
theorem dX2_translate_232 : decode cX2_translate 232 = .ok (.aload_n 0, 1) := by decide +kernel
theorem dX2_translate_233 : decode cX2_translate 233 = .ok (.dup, 1) := by decide +kernel
theorem dX2_translate_234 : decode cX2_translate 234 = .ok (.getfield 57, 3) := by decide +kernel
theorem dX2_translate_237 : decode cX2_translate 237 = .ok (.iconst 1, 1) := by decide +kernel
theorem dX2_translate_238 : decode cX2_translate 238 = .ok (.iadd, 1) := by decide +kernel
theorem dX2_translate_239 : decode cX2_translate 239 = .ok (.putfield 57, 3) := by decide +kernel
theorem dX2_translate_242 : decode cX2_translate 242 = .ok (.goto 146, 3) := by decide +kernel
theorem dX2_translate_245 : decode cX2_translate 245 = .ok (.aload_n 0, 1) := by decide +kernel
theorem dX2_translate_246 : decode cX2_translate 246 = .ok (.iload_n 3, 1) := by decide +kernel
theorem dX2_translate_247 : decode cX2_translate 247 = .ok (.iload 4, 2) := by decide +kernel
theorem dX2_translate_249 : decode cX2_translate 249 = .ok (.invokevirtual 122, 3) := by decide +kernel
theorem dX2_translate_252 : decode cX2_translate 252 = .ok (.goto 136, 3) := by decide +kernel
theorem dX2_translate_255 : decode cX2_translate 255 = .ok (.aload_n 0, 1) := by decide +kernel
theorem dX2_translate_256 : decode cX2_translate 256 = .ok (.getfield 16, 3) := by decide +kernel
theorem dX2_translate_259 : decode cX2_translate 259 = .ok (.aload_n 0, 1) := by decide +kernel
theorem dX2_translate_260 : decode cX2_translate 260 = .ok (.iload_n 2, 1) := by decide +kernel
theorem dX2_translate_261 : decode cX2_translate 261 = .ok (.iconst 0, 1) := by decide +kernel
theorem dX2_translate_262 : decode cX2_translate 262 = .ok (.invokevirtual 105, 3) := by decide +kernel
theorem dX2_translate_265 : decode cX2_translate 265 = .ok (.bipush 6, 2) := by decide +kernel
theorem dX2_translate_267 : decode cX2_translate 267 = .ok (.iadd, 1) := by decide +kernel
theorem dX2_translate_268 : decode cX2_translate 268 = .ok (.iload_n 3, 1) := by decide +kernel
theorem dX2_translate_269 : decode cX2_translate 269 = .ok (.invokestatic 101, 3) := by decide +kernel
theorem dX2_translate_272 : decode cX2_translate 272 = .ok (.aload_n 0, 1) := by decide +kernel
theorem dX2_translate_273 : decode cX2_translate 273 = .ok (.iconst 0, 1) := by decide +kernel
theorem dX2_translate_274 : decode cX2_translate 274 = .ok (.putfield 63, 3) := by decide +kernel
theorem dX2_translate_277 : decode cX2_translate 277 = .ok (.goto 111, 3) := by decide +kernel
theorem dX2_translate_280 : decode cX2_translate 280 = .ok (.aload_n 0, 1) := by decide +kernel
theorem dX2_translate_281 : decode cX2_translate 281 = .ok (.iload_n 1, 1) := by decide +kernel
theorem dX2_translate_282 : decode cX2_translate 282 = .ok (.iconst 1, 1) := by decide +kernel
theorem dX2_translate_283 : decode cX2_translate 283 = .ok (.iload 4, 2) := by decide +kernel
theorem dX2_translate_285 : decode cX2_translate 285 = .ok (.invokevirtual 126, 3) := by decide +kernel
theorem dX2_translate_288 : decode cX2_translate 288 = .ok (.pop, 1) := by decide +kernel
theorem dX2_translate_289 : decode cX2_translate 289 = .ok (.aload_n 0, 1) := by decide +kernel
theorem dX2_translate_290 : decode cX2_translate 290 = .ok (.iconst 0, 1) := by decide +kernel
theorem dX2_translate_291 : decode cX2_translate 291 = .ok (.putfield 63, 3) := by decide +kernel
theorem dX2_translate_294 : decode cX2_translate 294 = .ok (.goto 94, 3) := by decide +kernel
theorem dX2_translate_297 : decode cX2_translate 297 = .ok (.aload_n 0, 1) := by decide +kernel
theorem dX2_translate_298 : decode cX2_translate 298 = .ok (.getfield 16, 3) := by decide +kernel
theorem dX2_translate_301 : decode cX2_translate 301 = .ok (.aload_n 0, 1) := by decide +kernel
theorem dX2_translate_302 : decode cX2_translate 302 = .ok (.iload_n 1, 1) := by decide +kernel
theorem dX2_translate_303 : decode cX2_translate 303 = .ok (.iconst 1, 1) := by decide +kernel
theorem dX2_translate_304 : decode cX2_translate 304 = .ok (.iload 4, 2) := by decide +kernel
theorem dX2_translate_306 : decode cX2_translate 306 = .ok (.iconst 1, 1) := by decide +kernel
theorem dX2_translate_307 : decode cX2_translate 307 = .ok (.isub, 1) := by decide +kernel
theorem dX2_translate_308 : decode cX2_translate 308 = .ok (.invokevirtual 126, 3) := by decide +kernel
theorem dX2_translate_311 : decode cX2_translate 311 = .ok (.iconst 4, 1) := by decide +kernel
theorem dX2_translate_312 : decode cX2_translate 312 = .ok (.iadd, 1) := by decide +kernel
theorem dX2_translate_313 : decode cX2_translate 313 = .ok (.aload_n 0, 1) := by decide +kernel
theorem dX2_translate_314 : decode cX2_translate 314 = .ok (.iload 4, 2) := by decide +kernel
theorem dX2_translate_316 : decode cX2_translate 316 = .ok (.iconst 1, 1) := by decide +kernel
theorem dX2_translate_317 : decode cX2_translate 317 = .ok (.isub, 1) := by decide +kernel
theorem dX2_translate_318 : decode cX2_translate 318 = .ok (.invokevirtual 130, 3) := by decide +kernel
theorem dX2_translate_321 : decode cX2_translate 321 = .ok (.invokestatic 101, 3) := by decide +kernel
theorem dX2_translate_324 : decode cX2_translate 324 = .ok (.goto 64, 3) := by decide +kernel
theorem dX2_translate_327 : decode cX2_translate 327 = .ok (.aload_n 0, 1) := by decide +kernel
theorem dX2_translate_328 : decode cX2_translate 328 = .ok (.iload_n 1, 1) := by decide +kernel
theorem dX2_translate_329 : decode cX2_translate 329 = .ok (.iload_n 3, 1) := by decide +kernel
theorem dX2_translate_330 : decode cX2_translate 330 = .ok (.iload 4, 2) := by decide +kernel
theorem dX2_translate_332 : decode cX2_translate 332 = .ok (.invokevirtual 133, 3) := by decide +kernel
theorem dX2_translate_335 : decode cX2_translate 335 = .ok (.iload_n 3, 1) := by decide +kernel
theorem dX2_translate_336 : decode cX2_translate 336 = .ok (.iconst 1, 1) := by decide +kernel
theorem dX2_translate_337 : decode cX2_translate 337 = .ok (.iadd, 1) := by decide +kernel
theorem dX2_translate_338 : decode cX2_translate 338 = .ok (.ireturn, 1) := by decide +kernel
theorem dX2_translate_339 : decode cX2_translate 339 = .ok (.aload_n 0, 1) := by decide +kernel
theorem dX2_translate_340 : decode cX2_translate 340 = .ok (.iload_n 1, 1) := by decide +kernel
theorem dX2_translate_341 : decode cX2_translate 341 = .ok (.iload_n 2, 1) := by decide +kernel
theorem dX2_translate_342 : decode cX2_translate 342 = .ok (.iload 4, 2) := by decide +kernel
theorem dX2_translate_344 : decode cX2_translate 344 = .ok (.invokevirtual 136, 3) := by decide +kernel
theorem dX2_translate_347 : decode cX2_translate 347 = .ok (.goto 41, 3) := by decide +kernel
theorem dX2_translate_350 : decode cX2_translate 350 = .ok (.aload_n 0, 1) := by decide +kernel
theorem dX2_translate_351 : decode cX2_translate 351 = .ok (.iload 4, 2) := by decide +kernel
theorem dX2_translate_353 : decode cX2_translate 353 = .ok (.iload_n 3, 1) := by decide +kernel
theorem dX2_translate_354 : decode cX2_translate 354 = .ok (.invokevirtual 139, 3) := by decide +kernel
theorem dX2_translate_357 : decode cX2_translate 357 = .ok (.goto 31, 3) := by decide +kernel
theorem dX2_translate_360 : decode cX2_translate 360 = .ok (.aload_n 0, 1) := by decide +kernel
theorem dX2_translate_361 : decode cX2_translate 361 = .ok (.iload_n 3, 1) := by decide +kernel
theorem dX2_translate_362 : decode cX2_translate 362 = .ok (.iload 4, 2) := by decide +kernel
theorem dX2_translate_364 : decode cX2_translate 364 = .ok (.invokevirtual 142, 3) := by decide +kernel
theorem dX2_translate_367 : decode cX2_translate 367 = .ok (.goto 21, 3) := by decide +kernel
theorem dX2_translate_370 : decode cX2_translate 370 = .ok (.aload_n 0, 1) := by decide +kernel
theorem dX2_translate_371 : decode cX2_translate 371 = .ok (.iload_n 1, 1) := by decide +kernel
theorem dX2_translate_372 : decode cX2_translate 372 = .ok (.iload 4, 2) := by decide +kernel
theorem dX2_translate_374 : decode cX2_translate 374 = .ok (.invokevirtual 145, 3) := by decide +kernel
theorem dX2_translate_377 : decode cX2_translate 377 = .ok (.goto 11, 3) := by decide +kernel
theorem dX2_translate_380 : decode cX2_translate 380 = .ok (.aload_n 0, 1) := by decide +kernel
theorem dX2_translate_381 : decode cX2_translate 381 = .ok (.iload_n 1, 1) := by decide +kernel
theorem dX2_translate_382 : decode cX2_translate 382 = .ok (.iload_n 2, 1) := by decide +kernel
theorem dX2_translate_383 : decode cX2_translate 383 = .ok (.iload 4, 2) := by decide +kernel
theorem dX2_translate_385 : decode cX2_translate 385 = .ok (.invokevirtual 148, 3) := by decide +kernel
theorem dX2_translate_388 : decode cX2_translate 388 = .ok (.iconst 0, 1) := by decide +kernel
theorem dX2_translate_389 : decode cX2_translate 389 = .ok (.ireturn, 1) := by decide +kernel
noncomputable def fX2_translate_b85 (h : pm_H) (x0 : Nat) (x1 : Int32) (x2 : Int32) (x3 : Int32) (x4 : Int32) : Option (Int32 × pm_H) := if pm_kd h x0 = 2 then (pm_R h x0 8).bind fun v27 => (fX12_setItem h v27 x1 (pm_I h x0 4)).bind fun v29 => pm_let (fX2_ownedFor x2 x4) fun v31 => if pm_kd v29 x0 = 2 then (fX2_own v29 x0 v31).bind fun v34 => if x2 = 1 then (if pm_kd v34 x0 = 2 then pm_let ((pm_I v34 x0 11) + 1) fun y38 => some ((0, pm_setI v34 x0 11 y38)) else none) else (if x2 = 4 then (if pm_kd v34 x0 = 2 then (fX2_condition v34 x0 x3 x4).bind fun v42 => some ((0, v42)) else none) else (if x2 = 5 then (if pm_kd v34 x0 = 2 then (pm_R v34 x0 3).bind fun v46 => (fX2_emit v34 x0 x2 0).bind fun v48 => (fX12_setItem v48.2 v46 (v48.1 + 6) x3).bind fun v50 => if pm_kd v50 x0 = 2 then some ((0, pm_setI v50 x0 12 0)) else none else none) else (if x2 = 11 then (if pm_kd v34 x0 = 2 then (pm_R v34 x0 3).bind fun v55 => (fX2_emit v34 x0 x2 0).bind fun v57 => (fX12_setItem v57.2 v55 (v57.1 + 6) x3).bind fun v59 => if pm_kd v59 x0 = 2 then some ((0, pm_setI v59 x0 12 0)) else none else none) else (if x2 = 12 then (if pm_kd v34 x0 = 2 then (fX2_branch v34 x0 x1 1 x4).bind fun v64 => if pm_kd v64.2 x0 = 2 then some ((0, pm_setI v64.2 x0 12 0)) else none else none) else (if x2 = 13 then (if pm_kd v34 x0 = 2 then (pm_R v34 x0 3).bind fun v69 => (fX2_branch v34 x0 x1 1 (x4 - 1)).bind fun v71 => if pm_kd v71.2 x0 = 2 then (fX2_heldAt v71.2 x0 (x4 - 1)).bind fun v74 => (fX12_setItem v71.2 v69 (v71.1 + 4) v74).bind fun v76 => some ((0, v76)) else none else none) else (if x2 = 14 then (if pm_kd v34 x0 = 2 then (fX2_branchByTable v34 x0 x1 x3 x4).bind fun v80 => some ((x3 + 1, v80)) else none) else (if x2 = 16 then (if pm_kd v34 x0 = 2 then (fX2_calling v34 x0 x1 x2 x4).bind fun v84 => some ((0, v84)) else none) else (if x2 = 17 then (if pm_kd v34 x0 = 2 then (fX2_calling v34 x0 x1 x2 x4).bind fun v88 => some ((0, v88)) else none) else (if x2 = 26 then (if pm_kd v34 x0 = 2 then pm_let ((pm_I v34 x0 11) + 1) fun y92 => some ((0, pm_setI v34 x0 11 y92)) else none) else (if x2 = 32 then (if pm_kd v34 x0 = 2 then (fX2_hold v34 x0 x4 x3).bind fun v96 => some ((0, v96)) else none) else (if x2 = 33 then (if pm_kd v34 x0 = 2 then (fX2_setLocal v34 x0 x3 x4).bind fun v100 => some ((0, v100)) else none) else (if x2 = 34 then (if pm_kd v34 x0 = 2 then (fX2_setLocal v34 x0 x3 x4).bind fun v104 => some ((0, v104)) else none) else (if x2 = 65 then (if pm_kd v34 x0 = 2 then (fX2_holdConstant v34 x0 x1 x4).bind fun v108 => some ((0, v108)) else none) else (if pm_kd v34 x0 = 2 then (fX2_plain v34 x0 x1 x2 x4).bind fun v111 => some ((0, v111)) else none)))))))))))))) else none else none
noncomputable def fX2_translate (h : pm_H) (a0 : Nat) (p1 : Int32) : Option (Int32 × pm_H) := if pm_kd h a0 = 2 then (pm_R h a0 1).bind fun v2 => if pm_kd h v2 = 0 then (fX0_of h v2 p1 0).bind fun v5 => (fX0_of h v2 p1 1).bind fun v7 => (fX0_of h v2 p1 4).bind fun v9 => if (pm_I h a0 12) = 0 then ((fX2_ownUnseen h a0 v9).bind fun v24 => fX2_translate_b85 v24 a0 p1 v5 v7 v9) else ((pm_R h a0 9).bind fun v12 => if pm_kd h v12 = 32 then if (Int32.ofNat (pm_ln h v12)) ≤ p1 then (fX2_translate_b85 h a0 p1 v5 v7 v9) else (if pm_in p1 (pm_ln h v12) then if (pm_I h v12 p1.toNatClampNeg) = 0 then (fX2_translate_b85 h a0 p1 v5 v7 v9) else ((fX2_own h a0 v9).bind fun v18 => if pm_kd v18 a0 = 2 then if (pm_I v18 a0 11) ≤ 0 then (fX2_translate_b85 v18 a0 p1 v5 v7 v9) else ((fX2_emit v18 a0 1 0).bind fun v22 => fX2_translate_b85 v22.2 a0 p1 v5 v7 v9) else none) else none) else none) else none else none
set_option maxHeartbeats 4000000 in
set_option maxRecDepth 100000 in
theorem bX2_translate_85 {g : pm_Gm} {l : Launch} {G : pm_Gl} {Qr : Option Value → pm_H → Prop} (C : pm_C g cX2_translate RX2) (X : pm_X g l G mX2_translate 0 0 Qr) {h : pm_H} {x0 : Nat} {x1 : Int32} {x2 : Int32} {x3 : Int32} {x4 : Int32} {r : (Int32 × pm_H)} (hf : fX2_translate_b85 h x0 x1 x2 x3 x4 = some r) (q : Qr (some (.int r.1)) r.2) : pm_G g 85 [(0, .ref x0), (1, .int x1), (2, .int x2), (3, .int x3), (4, .int x4)] [] h 0 0 := by
  unfold fX2_translate_b85 at hf
  refine pm_aload_n C dX2_translate_85 rfl rfl ?_
  obtain ⟨k26, hf⟩ := pm_if hf
  obtain ⟨v27, e28, hf⟩ := pm_bd hf
  refine pm_getR C dX2_translate_86 flX2_24 rfl k26 e28 ?_
  refine pm_iload_n C dX2_translate_89 rfl rfl ?_
  refine pm_aload_n C dX2_translate_90 rfl rfl ?_
  refine pm_getI C dX2_translate_91 flX2_51 rfl k26 rfl ?_
  obtain ⟨v29, e30, hf⟩ := pm_bd hf
  refine pm_callS (as := [.ref v27, .int x1, .int (pm_I h x0 4)]) (st := []) C X dX2_translate_94 lnX2_101 myX12_setItem stX12_setItem ⟨by decide, by decide⟩ rfl rfl (Nat.le_of_ble_eq_true rfl) (Nat.le_refl _) (Nat.le_refl _) (ctX12_setItem e30 ?_)
  show pm_G g 97 [(0, .ref x0), (1, .int x1), (2, .int x2), (3, .int x3), (4, .int x4)] [] v29 0 0
  refine pm_aload_n C dX2_translate_97 rfl rfl ?_
  refine pm_iload_n C dX2_translate_98 rfl rfl ?_
  refine pm_iload C dX2_translate_99 rfl ?_
  obtain ⟨v31, e32, hf⟩ := pm_lt hf
  refine pm_callS (as := [.int x2, .int x4]) (st := [.ref x0]) C X dX2_translate_101 lnX2_119 myX2_ownedFor stX2_ownedFor ⟨by decide, by decide⟩ rfl rfl (Nat.le_of_ble_eq_true rfl) (Nat.le_refl _) (Nat.le_refl _) (ctX2_ownedFor e32 ?_)
  show pm_G g 104 [(0, .ref x0), (1, .int x1), (2, .int x2), (3, .int x3), (4, .int x4)] [.int v31, .ref x0] v29 0 0
  obtain ⟨k33, hf⟩ := pm_if hf
  obtain ⟨v34, e35, hf⟩ := pm_bd hf
  refine pm_callV (as := [.int v31]) (st := []) C X dX2_translate_104 lnX2_116 myX2_own viX2_own ⟨by decide, by decide⟩ rfl rfl k33 (Nat.le_of_ble_eq_true rfl) (Nat.le_refl _) (Nat.le_refl _) (ctX2_own e35 ?_)
  show pm_G g 107 [(0, .ref x0), (1, .int x1), (2, .int x2), (3, .int x3), (4, .int x4)] [] v34 0 0
  refine pm_iload_n C dX2_translate_107 rfl rfl ?_
  by_cases c36 : x2 = 1
  · have hf := pm_it hf c36
    refine pm_lookup (off := 124) (tgt := 232) C dX2_translate_108 (by decide) (by rw [c36]; first | done | decide | rfl) (by decide) ?_
    refine pm_aload_n C dX2_translate_232 rfl rfl ?_
    refine pm_dup C dX2_translate_233 rfl ?_
    obtain ⟨k37, hf⟩ := pm_if hf
    refine pm_getI C dX2_translate_234 flX2_57 rfl k37 rfl ?_
    refine pm_iconst (v := 1) C dX2_translate_237 (by decide) ?_
    refine pm_iadd C dX2_translate_238 ?_
    obtain ⟨y38, e39, hf⟩ := pm_lt hf
    refine pm_topI e39 ?_
    refine pm_putI C dX2_translate_239 flX2_57 rfl rfl k37 rfl rfl ?_
    refine pm_goto (tgt := 388) C dX2_translate_242 (by decide) ?_
    refine pm_iconst (v := 0) C dX2_translate_388 (by decide) ?_
    cases hf
    exact pm_iret C X dX2_translate_389 rfl (Nat.le_refl _) (Nat.le_refl _) q
  have hf := pm_ie hf c36
  by_cases c40 : x2 = 4
  · have hf := pm_it hf c40
    refine pm_lookup (off := 137) (tgt := 245) C dX2_translate_108 (by decide) (by rw [c40]; first | done | decide | rfl) (by decide) ?_
    refine pm_aload_n C dX2_translate_245 rfl rfl ?_
    refine pm_iload_n C dX2_translate_246 rfl rfl ?_
    refine pm_iload C dX2_translate_247 rfl ?_
    obtain ⟨k41, hf⟩ := pm_if hf
    obtain ⟨v42, e43, hf⟩ := pm_bd hf
    refine pm_callV (as := [.int x3, .int x4]) (st := []) C X dX2_translate_249 lnX2_122 myX2_condition viX2_condition ⟨by decide, by decide⟩ rfl rfl k41 (Nat.le_of_ble_eq_true rfl) (Nat.le_refl _) (Nat.le_refl _) (ctX2_condition e43 ?_)
    show pm_G g 252 [(0, .ref x0), (1, .int x1), (2, .int x2), (3, .int x3), (4, .int x4)] [] v42 0 0
    refine pm_goto (tgt := 388) C dX2_translate_252 (by decide) ?_
    refine pm_iconst (v := 0) C dX2_translate_388 (by decide) ?_
    cases hf
    exact pm_iret C X dX2_translate_389 rfl (Nat.le_refl _) (Nat.le_refl _) q
  have hf := pm_ie hf c40
  by_cases c44 : x2 = 5
  · have hf := pm_it hf c44
    refine pm_lookup (off := 147) (tgt := 255) C dX2_translate_108 (by decide) (by rw [c44]; first | done | decide | rfl) (by decide) ?_
    refine pm_aload_n C dX2_translate_255 rfl rfl ?_
    obtain ⟨k45, hf⟩ := pm_if hf
    obtain ⟨v46, e47, hf⟩ := pm_bd hf
    refine pm_getR C dX2_translate_256 flX2_16 rfl k45 e47 ?_
    refine pm_aload_n C dX2_translate_259 rfl rfl ?_
    refine pm_iload_n C dX2_translate_260 rfl rfl ?_
    refine pm_iconst (v := 0) C dX2_translate_261 (by decide) ?_
    obtain ⟨v48, e49, hf⟩ := pm_bd hf
    refine pm_callV (as := [.int x2, .int 0]) (st := [.ref v46]) C X dX2_translate_262 lnX2_105 myX2_emit viX2_emit ⟨by decide, by decide⟩ rfl rfl k45 (Nat.le_of_ble_eq_true rfl) (Nat.le_refl _) (Nat.le_refl _) (ctX2_emit e49 ?_)
    show pm_G g 265 [(0, .ref x0), (1, .int x1), (2, .int x2), (3, .int x3), (4, .int x4)] [.int v48.1, .ref v46] v48.2 0 0
    refine pm_bipush (v := 6) C dX2_translate_265 (by decide) ?_
    refine pm_iadd C dX2_translate_267 ?_
    refine pm_iload_n C dX2_translate_268 rfl rfl ?_
    obtain ⟨v50, e51, hf⟩ := pm_bd hf
    refine pm_callS (as := [.ref v46, .int (v48.1 + 6), .int x3]) (st := []) C X dX2_translate_269 lnX2_101 myX12_setItem stX12_setItem ⟨by decide, by decide⟩ rfl rfl (Nat.le_of_ble_eq_true rfl) (Nat.le_refl _) (Nat.le_refl _) (ctX12_setItem e51 ?_)
    show pm_G g 272 [(0, .ref x0), (1, .int x1), (2, .int x2), (3, .int x3), (4, .int x4)] [] v50 0 0
    refine pm_aload_n C dX2_translate_272 rfl rfl ?_
    refine pm_iconst (v := 0) C dX2_translate_273 (by decide) ?_
    obtain ⟨k52, hf⟩ := pm_if hf
    refine pm_putI C dX2_translate_274 flX2_63 rfl rfl k52 (by decide) (by decide) ?_
    refine pm_goto (tgt := 388) C dX2_translate_277 (by decide) ?_
    refine pm_iconst (v := 0) C dX2_translate_388 (by decide) ?_
    cases hf
    exact pm_iret C X dX2_translate_389 rfl (Nat.le_refl _) (Nat.le_refl _) q
  have hf := pm_ie hf c44
  by_cases c53 : x2 = 11
  · have hf := pm_it hf c53
    refine pm_lookup (off := 147) (tgt := 255) C dX2_translate_108 (by decide) (by rw [c53]; first | done | decide | rfl) (by decide) ?_
    refine pm_aload_n C dX2_translate_255 rfl rfl ?_
    obtain ⟨k54, hf⟩ := pm_if hf
    obtain ⟨v55, e56, hf⟩ := pm_bd hf
    refine pm_getR C dX2_translate_256 flX2_16 rfl k54 e56 ?_
    refine pm_aload_n C dX2_translate_259 rfl rfl ?_
    refine pm_iload_n C dX2_translate_260 rfl rfl ?_
    refine pm_iconst (v := 0) C dX2_translate_261 (by decide) ?_
    obtain ⟨v57, e58, hf⟩ := pm_bd hf
    refine pm_callV (as := [.int x2, .int 0]) (st := [.ref v55]) C X dX2_translate_262 lnX2_105 myX2_emit viX2_emit ⟨by decide, by decide⟩ rfl rfl k54 (Nat.le_of_ble_eq_true rfl) (Nat.le_refl _) (Nat.le_refl _) (ctX2_emit e58 ?_)
    show pm_G g 265 [(0, .ref x0), (1, .int x1), (2, .int x2), (3, .int x3), (4, .int x4)] [.int v57.1, .ref v55] v57.2 0 0
    refine pm_bipush (v := 6) C dX2_translate_265 (by decide) ?_
    refine pm_iadd C dX2_translate_267 ?_
    refine pm_iload_n C dX2_translate_268 rfl rfl ?_
    obtain ⟨v59, e60, hf⟩ := pm_bd hf
    refine pm_callS (as := [.ref v55, .int (v57.1 + 6), .int x3]) (st := []) C X dX2_translate_269 lnX2_101 myX12_setItem stX12_setItem ⟨by decide, by decide⟩ rfl rfl (Nat.le_of_ble_eq_true rfl) (Nat.le_refl _) (Nat.le_refl _) (ctX12_setItem e60 ?_)
    show pm_G g 272 [(0, .ref x0), (1, .int x1), (2, .int x2), (3, .int x3), (4, .int x4)] [] v59 0 0
    refine pm_aload_n C dX2_translate_272 rfl rfl ?_
    refine pm_iconst (v := 0) C dX2_translate_273 (by decide) ?_
    obtain ⟨k61, hf⟩ := pm_if hf
    refine pm_putI C dX2_translate_274 flX2_63 rfl rfl k61 (by decide) (by decide) ?_
    refine pm_goto (tgt := 388) C dX2_translate_277 (by decide) ?_
    refine pm_iconst (v := 0) C dX2_translate_388 (by decide) ?_
    cases hf
    exact pm_iret C X dX2_translate_389 rfl (Nat.le_refl _) (Nat.le_refl _) q
  have hf := pm_ie hf c53
  by_cases c62 : x2 = 12
  · have hf := pm_it hf c62
    refine pm_lookup (off := 172) (tgt := 280) C dX2_translate_108 (by decide) (by rw [c62]; first | done | decide | rfl) (by decide) ?_
    refine pm_aload_n C dX2_translate_280 rfl rfl ?_
    refine pm_iload_n C dX2_translate_281 rfl rfl ?_
    refine pm_iconst (v := 1) C dX2_translate_282 (by decide) ?_
    refine pm_iload C dX2_translate_283 rfl ?_
    obtain ⟨k63, hf⟩ := pm_if hf
    obtain ⟨v64, e65, hf⟩ := pm_bd hf
    refine pm_callV (as := [.int x1, .int 1, .int x4]) (st := []) C X dX2_translate_285 lnX2_126 myX2_branch viX2_branch ⟨by decide, by decide⟩ rfl rfl k63 (Nat.le_of_ble_eq_true rfl) (Nat.le_refl _) (Nat.le_refl _) (ctX2_branch e65 ?_)
    show pm_G g 288 [(0, .ref x0), (1, .int x1), (2, .int x2), (3, .int x3), (4, .int x4)] [.int v64.1] v64.2 0 0
    refine pm_pop C dX2_translate_288 rfl ?_
    refine pm_aload_n C dX2_translate_289 rfl rfl ?_
    refine pm_iconst (v := 0) C dX2_translate_290 (by decide) ?_
    obtain ⟨k66, hf⟩ := pm_if hf
    refine pm_putI C dX2_translate_291 flX2_63 rfl rfl k66 (by decide) (by decide) ?_
    refine pm_goto (tgt := 388) C dX2_translate_294 (by decide) ?_
    refine pm_iconst (v := 0) C dX2_translate_388 (by decide) ?_
    cases hf
    exact pm_iret C X dX2_translate_389 rfl (Nat.le_refl _) (Nat.le_refl _) q
  have hf := pm_ie hf c62
  by_cases c67 : x2 = 13
  · have hf := pm_it hf c67
    refine pm_lookup (off := 189) (tgt := 297) C dX2_translate_108 (by decide) (by rw [c67]; first | done | decide | rfl) (by decide) ?_
    refine pm_aload_n C dX2_translate_297 rfl rfl ?_
    obtain ⟨k68, hf⟩ := pm_if hf
    obtain ⟨v69, e70, hf⟩ := pm_bd hf
    refine pm_getR C dX2_translate_298 flX2_16 rfl k68 e70 ?_
    refine pm_aload_n C dX2_translate_301 rfl rfl ?_
    refine pm_iload_n C dX2_translate_302 rfl rfl ?_
    refine pm_iconst (v := 1) C dX2_translate_303 (by decide) ?_
    refine pm_iload C dX2_translate_304 rfl ?_
    refine pm_iconst (v := 1) C dX2_translate_306 (by decide) ?_
    refine pm_isub C dX2_translate_307 ?_
    obtain ⟨v71, e72, hf⟩ := pm_bd hf
    refine pm_callV (as := [.int x1, .int 1, .int (x4 - 1)]) (st := [.ref v69]) C X dX2_translate_308 lnX2_126 myX2_branch viX2_branch ⟨by decide, by decide⟩ rfl rfl k68 (Nat.le_of_ble_eq_true rfl) (Nat.le_refl _) (Nat.le_refl _) (ctX2_branch e72 ?_)
    show pm_G g 311 [(0, .ref x0), (1, .int x1), (2, .int x2), (3, .int x3), (4, .int x4)] [.int v71.1, .ref v69] v71.2 0 0
    refine pm_iconst (v := 4) C dX2_translate_311 (by decide) ?_
    refine pm_iadd C dX2_translate_312 ?_
    refine pm_aload_n C dX2_translate_313 rfl rfl ?_
    refine pm_iload C dX2_translate_314 rfl ?_
    refine pm_iconst (v := 1) C dX2_translate_316 (by decide) ?_
    refine pm_isub C dX2_translate_317 ?_
    obtain ⟨k73, hf⟩ := pm_if hf
    obtain ⟨v74, e75, hf⟩ := pm_bd hf
    refine pm_callV (as := [.int (x4 - 1)]) (st := [.int (v71.1 + 4), .ref v69]) C X dX2_translate_318 lnX2_130 myX2_heldAt viX2_heldAt ⟨by decide, by decide⟩ rfl rfl k73 (Nat.le_of_ble_eq_true rfl) (Nat.le_refl _) (Nat.le_refl _) (ctX2_heldAt e75 ?_)
    show pm_G g 321 [(0, .ref x0), (1, .int x1), (2, .int x2), (3, .int x3), (4, .int x4)] [.int v74, .int (v71.1 + 4), .ref v69] v71.2 0 0
    obtain ⟨v76, e77, hf⟩ := pm_bd hf
    refine pm_callS (as := [.ref v69, .int (v71.1 + 4), .int v74]) (st := []) C X dX2_translate_321 lnX2_101 myX12_setItem stX12_setItem ⟨by decide, by decide⟩ rfl rfl (Nat.le_of_ble_eq_true rfl) (Nat.le_refl _) (Nat.le_refl _) (ctX12_setItem e77 ?_)
    show pm_G g 324 [(0, .ref x0), (1, .int x1), (2, .int x2), (3, .int x3), (4, .int x4)] [] v76 0 0
    refine pm_goto (tgt := 388) C dX2_translate_324 (by decide) ?_
    refine pm_iconst (v := 0) C dX2_translate_388 (by decide) ?_
    cases hf
    exact pm_iret C X dX2_translate_389 rfl (Nat.le_refl _) (Nat.le_refl _) q
  have hf := pm_ie hf c67
  by_cases c78 : x2 = 14
  · have hf := pm_it hf c78
    refine pm_lookup (off := 219) (tgt := 327) C dX2_translate_108 (by decide) (by rw [c78]; first | done | decide | rfl) (by decide) ?_
    refine pm_aload_n C dX2_translate_327 rfl rfl ?_
    refine pm_iload_n C dX2_translate_328 rfl rfl ?_
    refine pm_iload_n C dX2_translate_329 rfl rfl ?_
    refine pm_iload C dX2_translate_330 rfl ?_
    obtain ⟨k79, hf⟩ := pm_if hf
    obtain ⟨v80, e81, hf⟩ := pm_bd hf
    refine pm_callV (as := [.int x1, .int x3, .int x4]) (st := []) C X dX2_translate_332 lnX2_133 myX2_branchByTable viX2_branchByTable ⟨by decide, by decide⟩ rfl rfl k79 (Nat.le_of_ble_eq_true rfl) (Nat.le_refl _) (Nat.le_refl _) (ctX2_branchByTable e81 ?_)
    show pm_G g 335 [(0, .ref x0), (1, .int x1), (2, .int x2), (3, .int x3), (4, .int x4)] [] v80 0 0
    refine pm_iload_n C dX2_translate_335 rfl rfl ?_
    refine pm_iconst (v := 1) C dX2_translate_336 (by decide) ?_
    refine pm_iadd C dX2_translate_337 ?_
    cases hf
    exact pm_iret C X dX2_translate_338 rfl (Nat.le_refl _) (Nat.le_refl _) q
  have hf := pm_ie hf c78
  by_cases c82 : x2 = 16
  · have hf := pm_it hf c82
    refine pm_lookup (off := 231) (tgt := 339) C dX2_translate_108 (by decide) (by rw [c82]; first | done | decide | rfl) (by decide) ?_
    refine pm_aload_n C dX2_translate_339 rfl rfl ?_
    refine pm_iload_n C dX2_translate_340 rfl rfl ?_
    refine pm_iload_n C dX2_translate_341 rfl rfl ?_
    refine pm_iload C dX2_translate_342 rfl ?_
    obtain ⟨k83, hf⟩ := pm_if hf
    obtain ⟨v84, e85, hf⟩ := pm_bd hf
    refine pm_callV (as := [.int x1, .int x2, .int x4]) (st := []) C X dX2_translate_344 lnX2_136 myX2_calling viX2_calling ⟨by decide, by decide⟩ rfl rfl k83 (Nat.le_of_ble_eq_true rfl) (Nat.le_refl _) (Nat.le_refl _) (ctX2_calling e85 ?_)
    show pm_G g 347 [(0, .ref x0), (1, .int x1), (2, .int x2), (3, .int x3), (4, .int x4)] [] v84 0 0
    refine pm_goto (tgt := 388) C dX2_translate_347 (by decide) ?_
    refine pm_iconst (v := 0) C dX2_translate_388 (by decide) ?_
    cases hf
    exact pm_iret C X dX2_translate_389 rfl (Nat.le_refl _) (Nat.le_refl _) q
  have hf := pm_ie hf c82
  by_cases c86 : x2 = 17
  · have hf := pm_it hf c86
    refine pm_lookup (off := 231) (tgt := 339) C dX2_translate_108 (by decide) (by rw [c86]; first | done | decide | rfl) (by decide) ?_
    refine pm_aload_n C dX2_translate_339 rfl rfl ?_
    refine pm_iload_n C dX2_translate_340 rfl rfl ?_
    refine pm_iload_n C dX2_translate_341 rfl rfl ?_
    refine pm_iload C dX2_translate_342 rfl ?_
    obtain ⟨k87, hf⟩ := pm_if hf
    obtain ⟨v88, e89, hf⟩ := pm_bd hf
    refine pm_callV (as := [.int x1, .int x2, .int x4]) (st := []) C X dX2_translate_344 lnX2_136 myX2_calling viX2_calling ⟨by decide, by decide⟩ rfl rfl k87 (Nat.le_of_ble_eq_true rfl) (Nat.le_refl _) (Nat.le_refl _) (ctX2_calling e89 ?_)
    show pm_G g 347 [(0, .ref x0), (1, .int x1), (2, .int x2), (3, .int x3), (4, .int x4)] [] v88 0 0
    refine pm_goto (tgt := 388) C dX2_translate_347 (by decide) ?_
    refine pm_iconst (v := 0) C dX2_translate_388 (by decide) ?_
    cases hf
    exact pm_iret C X dX2_translate_389 rfl (Nat.le_refl _) (Nat.le_refl _) q
  have hf := pm_ie hf c86
  by_cases c90 : x2 = 26
  · have hf := pm_it hf c90
    refine pm_lookup (off := 124) (tgt := 232) C dX2_translate_108 (by decide) (by rw [c90]; first | done | decide | rfl) (by decide) ?_
    refine pm_aload_n C dX2_translate_232 rfl rfl ?_
    refine pm_dup C dX2_translate_233 rfl ?_
    obtain ⟨k91, hf⟩ := pm_if hf
    refine pm_getI C dX2_translate_234 flX2_57 rfl k91 rfl ?_
    refine pm_iconst (v := 1) C dX2_translate_237 (by decide) ?_
    refine pm_iadd C dX2_translate_238 ?_
    obtain ⟨y92, e93, hf⟩ := pm_lt hf
    refine pm_topI e93 ?_
    refine pm_putI C dX2_translate_239 flX2_57 rfl rfl k91 rfl rfl ?_
    refine pm_goto (tgt := 388) C dX2_translate_242 (by decide) ?_
    refine pm_iconst (v := 0) C dX2_translate_388 (by decide) ?_
    cases hf
    exact pm_iret C X dX2_translate_389 rfl (Nat.le_refl _) (Nat.le_refl _) q
  have hf := pm_ie hf c90
  by_cases c94 : x2 = 32
  · have hf := pm_it hf c94
    refine pm_lookup (off := 242) (tgt := 350) C dX2_translate_108 (by decide) (by rw [c94]; first | done | decide | rfl) (by decide) ?_
    refine pm_aload_n C dX2_translate_350 rfl rfl ?_
    refine pm_iload C dX2_translate_351 rfl ?_
    refine pm_iload_n C dX2_translate_353 rfl rfl ?_
    obtain ⟨k95, hf⟩ := pm_if hf
    obtain ⟨v96, e97, hf⟩ := pm_bd hf
    refine pm_callV (as := [.int x4, .int x3]) (st := []) C X dX2_translate_354 lnX2_139 myX2_hold viX2_hold ⟨by decide, by decide⟩ rfl rfl k95 (Nat.le_of_ble_eq_true rfl) (Nat.le_refl _) (Nat.le_refl _) (ctX2_hold e97 ?_)
    show pm_G g 357 [(0, .ref x0), (1, .int x1), (2, .int x2), (3, .int x3), (4, .int x4)] [] v96 0 0
    refine pm_goto (tgt := 388) C dX2_translate_357 (by decide) ?_
    refine pm_iconst (v := 0) C dX2_translate_388 (by decide) ?_
    cases hf
    exact pm_iret C X dX2_translate_389 rfl (Nat.le_refl _) (Nat.le_refl _) q
  have hf := pm_ie hf c94
  by_cases c98 : x2 = 33
  · have hf := pm_it hf c98
    refine pm_lookup (off := 252) (tgt := 360) C dX2_translate_108 (by decide) (by rw [c98]; first | done | decide | rfl) (by decide) ?_
    refine pm_aload_n C dX2_translate_360 rfl rfl ?_
    refine pm_iload_n C dX2_translate_361 rfl rfl ?_
    refine pm_iload C dX2_translate_362 rfl ?_
    obtain ⟨k99, hf⟩ := pm_if hf
    obtain ⟨v100, e101, hf⟩ := pm_bd hf
    refine pm_callV (as := [.int x3, .int x4]) (st := []) C X dX2_translate_364 lnX2_142 myX2_setLocal viX2_setLocal ⟨by decide, by decide⟩ rfl rfl k99 (Nat.le_of_ble_eq_true rfl) (Nat.le_refl _) (Nat.le_refl _) (ctX2_setLocal e101 ?_)
    show pm_G g 367 [(0, .ref x0), (1, .int x1), (2, .int x2), (3, .int x3), (4, .int x4)] [] v100 0 0
    refine pm_goto (tgt := 388) C dX2_translate_367 (by decide) ?_
    refine pm_iconst (v := 0) C dX2_translate_388 (by decide) ?_
    cases hf
    exact pm_iret C X dX2_translate_389 rfl (Nat.le_refl _) (Nat.le_refl _) q
  have hf := pm_ie hf c98
  by_cases c102 : x2 = 34
  · have hf := pm_it hf c102
    refine pm_lookup (off := 252) (tgt := 360) C dX2_translate_108 (by decide) (by rw [c102]; first | done | decide | rfl) (by decide) ?_
    refine pm_aload_n C dX2_translate_360 rfl rfl ?_
    refine pm_iload_n C dX2_translate_361 rfl rfl ?_
    refine pm_iload C dX2_translate_362 rfl ?_
    obtain ⟨k103, hf⟩ := pm_if hf
    obtain ⟨v104, e105, hf⟩ := pm_bd hf
    refine pm_callV (as := [.int x3, .int x4]) (st := []) C X dX2_translate_364 lnX2_142 myX2_setLocal viX2_setLocal ⟨by decide, by decide⟩ rfl rfl k103 (Nat.le_of_ble_eq_true rfl) (Nat.le_refl _) (Nat.le_refl _) (ctX2_setLocal e105 ?_)
    show pm_G g 367 [(0, .ref x0), (1, .int x1), (2, .int x2), (3, .int x3), (4, .int x4)] [] v104 0 0
    refine pm_goto (tgt := 388) C dX2_translate_367 (by decide) ?_
    refine pm_iconst (v := 0) C dX2_translate_388 (by decide) ?_
    cases hf
    exact pm_iret C X dX2_translate_389 rfl (Nat.le_refl _) (Nat.le_refl _) q
  have hf := pm_ie hf c102
  by_cases c106 : x2 = 65
  · have hf := pm_it hf c106
    refine pm_lookup (off := 262) (tgt := 370) C dX2_translate_108 (by decide) (by rw [c106]; first | done | decide | rfl) (by decide) ?_
    refine pm_aload_n C dX2_translate_370 rfl rfl ?_
    refine pm_iload_n C dX2_translate_371 rfl rfl ?_
    refine pm_iload C dX2_translate_372 rfl ?_
    obtain ⟨k107, hf⟩ := pm_if hf
    obtain ⟨v108, e109, hf⟩ := pm_bd hf
    refine pm_callV (as := [.int x1, .int x4]) (st := []) C X dX2_translate_374 lnX2_145 myX2_holdConstant viX2_holdConstant ⟨by decide, by decide⟩ rfl rfl k107 (Nat.le_of_ble_eq_true rfl) (Nat.le_refl _) (Nat.le_refl _) (ctX2_holdConstant e109 ?_)
    show pm_G g 377 [(0, .ref x0), (1, .int x1), (2, .int x2), (3, .int x3), (4, .int x4)] [] v108 0 0
    refine pm_goto (tgt := 388) C dX2_translate_377 (by decide) ?_
    refine pm_iconst (v := 0) C dX2_translate_388 (by decide) ?_
    cases hf
    exact pm_iret C X dX2_translate_389 rfl (Nat.le_refl _) (Nat.le_refl _) q
  have hf := pm_ie hf c106
  refine pm_lookup (off := 272) (tgt := 380) C dX2_translate_108 (by decide) ((lv_osw c36 (by decide)).trans ((lv_osw c40 (by decide)).trans ((lv_osw c44 (by decide)).trans ((lv_osw c53 (by decide)).trans ((lv_osw c62 (by decide)).trans ((lv_osw c67 (by decide)).trans ((lv_osw c78 (by decide)).trans ((lv_osw c82 (by decide)).trans ((lv_osw c86 (by decide)).trans ((lv_osw c90 (by decide)).trans ((lv_osw c94 (by decide)).trans ((lv_osw c98 (by decide)).trans ((lv_osw c102 (by decide)).trans ((lv_osw c106 (by decide)).trans (rfl))))))))))))))) (by decide) ?_
  refine pm_aload_n C dX2_translate_380 rfl rfl ?_
  refine pm_iload_n C dX2_translate_381 rfl rfl ?_
  refine pm_iload_n C dX2_translate_382 rfl rfl ?_
  refine pm_iload C dX2_translate_383 rfl ?_
  obtain ⟨k110, hf⟩ := pm_if hf
  obtain ⟨v111, e112, hf⟩ := pm_bd hf
  refine pm_callV (as := [.int x1, .int x2, .int x4]) (st := []) C X dX2_translate_385 lnX2_148 myX2_plain viX2_plain ⟨by decide, by decide⟩ rfl rfl k110 (Nat.le_of_ble_eq_true rfl) (Nat.le_refl _) (Nat.le_refl _) (ctX2_plain e112 ?_)
  show pm_G g 388 [(0, .ref x0), (1, .int x1), (2, .int x2), (3, .int x3), (4, .int x4)] [] v111 0 0
  refine pm_iconst (v := 0) C dX2_translate_388 (by decide) ?_
  cases hf
  exact pm_iret C X dX2_translate_389 rfl (Nat.le_refl _) (Nat.le_refl _) q
set_option maxHeartbeats 4000000 in
set_option maxRecDepth 100000 in
theorem ctX2_translate {l : Launch} {G : pm_Gl} {h : pm_H} {a0 : Nat} {p1 : Int32} {r : (Int32 × pm_H)} {Qr : Option Value → pm_H → Prop} (hf : fX2_translate h a0 p1 = some r) (q : Qr (some (.int r.1)) r.2) : pm_Ct l G mX2_translate [.ref a0, .int p1] h 0 0 Qr := by
  refine pm_body pnX2 (Nat.le_of_ble_eq_true rfl) (fun g C X => ?_)
  have C : pm_C g cX2_translate RX2 := C
  show pm_G g 0 [(0, .ref a0), (1, .int p1)] [] h 0 0
  unfold fX2_translate at hf
  refine pm_aload_n C dX2_translate_0 rfl rfl ?_
  obtain ⟨k1, hf⟩ := pm_if hf
  obtain ⟨v2, e3, hf⟩ := pm_bd hf
  refine pm_getR C dX2_translate_1 flX2_34 rfl k1 e3 ?_
  refine pm_iload_n C dX2_translate_4 rfl rfl ?_
  refine pm_iconst (v := 0) C dX2_translate_5 (by decide) ?_
  obtain ⟨k4, hf⟩ := pm_if hf
  obtain ⟨v5, e6, hf⟩ := pm_bd hf
  refine pm_callV (as := [.int p1, .int 0]) (st := []) C X dX2_translate_6 lnX2_89 myX0_of viX0_of ⟨by decide, by decide⟩ rfl rfl k4 (Nat.le_of_ble_eq_true rfl) (Nat.le_refl _) (Nat.le_refl _) (ctX0_of e6 ?_)
  show pm_G g 9 [(0, .ref a0), (1, .int p1)] [.int v5] h 0 0
  refine pm_istore_n (lv' := [(2, .int v5), (0, .ref a0), (1, .int p1)]) C dX2_translate_9 rfl (pm_nl X (by decide)) rfl ?_
  refine pm_aload_n C dX2_translate_10 rfl rfl ?_
  refine pm_getR C dX2_translate_11 flX2_34 rfl k1 e3 ?_
  refine pm_iload_n C dX2_translate_14 rfl rfl ?_
  refine pm_iconst (v := 1) C dX2_translate_15 (by decide) ?_
  obtain ⟨v7, e8, hf⟩ := pm_bd hf
  refine pm_callV (as := [.int p1, .int 1]) (st := []) C X dX2_translate_16 lnX2_89 myX0_of viX0_of ⟨by decide, by decide⟩ rfl rfl k4 (Nat.le_of_ble_eq_true rfl) (Nat.le_refl _) (Nat.le_refl _) (ctX0_of e8 ?_)
  show pm_G g 19 [(2, .int v5), (0, .ref a0), (1, .int p1)] [.int v7] h 0 0
  refine pm_istore_n (lv' := [(3, .int v7), (2, .int v5), (0, .ref a0), (1, .int p1)]) C dX2_translate_19 rfl (pm_nl X (by decide)) rfl ?_
  refine pm_aload_n C dX2_translate_20 rfl rfl ?_
  refine pm_getR C dX2_translate_21 flX2_34 rfl k1 e3 ?_
  refine pm_iload_n C dX2_translate_24 rfl rfl ?_
  refine pm_iconst (v := 4) C dX2_translate_25 (by decide) ?_
  obtain ⟨v9, e10, hf⟩ := pm_bd hf
  refine pm_callV (as := [.int p1, .int 4]) (st := []) C X dX2_translate_26 lnX2_89 myX0_of viX0_of ⟨by decide, by decide⟩ rfl rfl k4 (Nat.le_of_ble_eq_true rfl) (Nat.le_refl _) (Nat.le_refl _) (ctX0_of e10 ?_)
  show pm_G g 29 [(3, .int v7), (2, .int v5), (0, .ref a0), (1, .int p1)] [.int v9] h 0 0
  refine pm_istore (lv' := [(4, .int v9), (3, .int v7), (2, .int v5), (0, .ref a0), (1, .int p1)]) C dX2_translate_29 (pm_nl X (by decide)) rfl ?_
  refine pm_aload_n C dX2_translate_31 rfl rfl ?_
  refine pm_getI C dX2_translate_32 flX2_63 rfl k1 rfl ?_
  refine pm_if_ne (tgt := 47) C dX2_translate_35 (by decide) (fun c11 => ?_) (fun c11 => ?_)
  · have hf := pm_ie hf c11
    refine pm_iload_n C dX2_translate_47 rfl rfl ?_
    refine pm_aload_n C dX2_translate_48 rfl rfl ?_
    obtain ⟨v12, e13, hf⟩ := pm_bd hf
    refine pm_getR C dX2_translate_49 flX2_27 rfl k1 e13 ?_
    obtain ⟨k14, hf⟩ := pm_if hf
    refine pm_alen (t := 0) C dX2_translate_52 (by decide) k14 rfl ?_
    refine pm_icmp_ge (tgt := 85) C dX2_translate_53 (by decide) (fun c15 => ?_) (fun c15 => ?_)
    · have hf := pm_it hf c15
      exact pm_sub [3, 4, 2, 1, 0] rfl (bX2_translate_85 C X hf q)
    · have hf := pm_ie hf c15
      refine pm_aload_n C dX2_translate_56 rfl rfl ?_
      refine pm_getR C dX2_translate_57 flX2_27 rfl k1 e13 ?_
      refine pm_iload_n C dX2_translate_60 rfl rfl ?_
      obtain ⟨u16, hf⟩ := pm_if hf
      refine pm_zald C dX2_translate_61 k14 u16 rfl ?_
      refine pm_if_eq (tgt := 85) C dX2_translate_62 (by decide) (fun c17 => ?_) (fun c17 => ?_)
      · have hf := pm_it hf c17
        exact pm_sub [3, 4, 2, 1, 0] rfl (bX2_translate_85 C X hf q)
      · have hf := pm_ie hf c17
        refine pm_aload_n C dX2_translate_65 rfl rfl ?_
        refine pm_iload C dX2_translate_66 rfl ?_
        obtain ⟨v18, e19, hf⟩ := pm_bd hf
        refine pm_callV (as := [.int v9]) (st := []) C X dX2_translate_68 lnX2_116 myX2_own viX2_own ⟨by decide, by decide⟩ rfl rfl k1 (Nat.le_of_ble_eq_true rfl) (Nat.le_refl _) (Nat.le_refl _) (ctX2_own e19 ?_)
        show pm_G g 71 [(4, .int v9), (3, .int v7), (2, .int v5), (0, .ref a0), (1, .int p1)] [] v18 0 0
        refine pm_aload_n C dX2_translate_71 rfl rfl ?_
        obtain ⟨k20, hf⟩ := pm_if hf
        refine pm_getI C dX2_translate_72 flX2_57 rfl k20 rfl ?_
        refine pm_if_le (tgt := 85) C dX2_translate_75 (by decide) (fun c21 => ?_) (fun c21 => ?_)
        · have hf := pm_it hf c21
          exact pm_sub [3, 4, 2, 1, 0] rfl (bX2_translate_85 C X hf q)
        · have hf := pm_ie hf c21
          refine pm_aload_n C dX2_translate_78 rfl rfl ?_
          refine pm_iconst (v := 1) C dX2_translate_79 (by decide) ?_
          refine pm_iconst (v := 0) C dX2_translate_80 (by decide) ?_
          obtain ⟨v22, e23, hf⟩ := pm_bd hf
          refine pm_callV (as := [.int 1, .int 0]) (st := []) C X dX2_translate_81 lnX2_105 myX2_emit viX2_emit ⟨by decide, by decide⟩ rfl rfl k20 (Nat.le_of_ble_eq_true rfl) (Nat.le_refl _) (Nat.le_refl _) (ctX2_emit e23 ?_)
          show pm_G g 84 [(4, .int v9), (3, .int v7), (2, .int v5), (0, .ref a0), (1, .int p1)] [.int v22.1] v22.2 0 0
          refine pm_pop C dX2_translate_84 rfl ?_
          exact pm_sub [3, 4, 2, 1, 0] rfl (bX2_translate_85 C X hf q)
  · have hf := pm_it hf c11
    refine pm_aload_n C dX2_translate_38 rfl rfl ?_
    refine pm_iload C dX2_translate_39 rfl ?_
    obtain ⟨v24, e25, hf⟩ := pm_bd hf
    refine pm_callV (as := [.int v9]) (st := []) C X dX2_translate_41 lnX2_112 myX2_ownUnseen viX2_ownUnseen ⟨by decide, by decide⟩ rfl rfl k1 (Nat.le_of_ble_eq_true rfl) (Nat.le_refl _) (Nat.le_refl _) (ctX2_ownUnseen e25 ?_)
    show pm_G g 44 [(4, .int v9), (3, .int v7), (2, .int v5), (0, .ref a0), (1, .int p1)] [] v24 0 0
    refine pm_goto (tgt := 85) C dX2_translate_44 (by decide) ?_
    exact pm_sub [3, 4, 2, 1, 0] rfl (bX2_translate_85 C X hf q)
