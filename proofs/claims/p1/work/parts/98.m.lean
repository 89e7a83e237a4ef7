theorem dX10_fits_0 : decode cX10_fits 0 = .ok (.aload_n 1, 1) := by decide +kernel
theorem dX10_fits_1 : decode cX10_fits 1 = .ok (.getfield 99, 3) := by decide +kernel
theorem dX10_fits_4 : decode cX10_fits 4 = .ok (.iload_n 2, 1) := by decide +kernel
theorem dX10_fits_5 : decode cX10_fits 5 = .ok (.iconst 0, 1) := by decide +kernel
theorem dX10_fits_6 : decode cX10_fits 6 = .ok (.iadd, 1) := by decide +kernel
theorem dX10_fits_7 : decode cX10_fits 7 = .ok (.invokestatic 112, 3) := by decide +kernel
theorem dX10_fits_10 : decode cX10_fits 10 = .ok (.l2i, 1) := by decide +kernel
theorem dX10_fits_11 : decode cX10_fits 11 = .ok (.istore 5, 2) := by decide +kernel
theorem dX10_fits_13 : decode cX10_fits 13 = .ok (.aload_n 1, 1) := by decide +kernel
theorem dX10_fits_14 : decode cX10_fits 14 = .ok (.getfield 99, 3) := by decide +kernel
theorem dX10_fits_17 : decode cX10_fits 17 = .ok (.iload_n 2, 1) := by decide +kernel
theorem dX10_fits_18 : decode cX10_fits 18 = .ok (.iconst 1, 1) := by decide +kernel
theorem dX10_fits_19 : decode cX10_fits 19 = .ok (.iadd, 1) := by decide +kernel
theorem dX10_fits_20 : decode cX10_fits 20 = .ok (.invokestatic 112, 3) := by decide +kernel
theorem dX10_fits_23 : decode cX10_fits 23 = .ok (.lstore 6, 2) := by decide +kernel
theorem dX10_fits_25 : decode cX10_fits 25 = .ok (.iload_n 3, 1) := by decide +kernel
theorem dX10_fits_26 : decode cX10_fits 26 = .ok (.iconst (-1), 1) := by decide +kernel
theorem dX10_fits_27 : decode cX10_fits 27 = .ok (.if_icmp .ne 14, 3) := by decide +kernel
theorem dX10_fits_30 : decode cX10_fits 30 = .ok (.iload 5, 2) := by decide +kernel
theorem dX10_fits_32 : decode cX10_fits 32 = .ok (.ifCond .ne 7, 3) := by decide +kernel
theorem dX10_fits_35 : decode cX10_fits 35 = .ok (.iconst 1, 1) := by decide +kernel
theorem dX10_fits_36 : decode cX10_fits 36 = .ok (.goto 4, 3) := by decide +kernel
theorem dX10_fits_39 : decode cX10_fits 39 = .ok (.iconst 0, 1) := by decide +kernel
theorem dX10_fits_40 : decode cX10_fits 40 = .ok (.ireturn, 1) := by decide +kernel
theorem dX10_fits_41 : decode cX10_fits 41 = .ok (.iload_n 3, 1) := by decide +kernel
theorem dX10_fits_42 : decode cX10_fits 42 = .ok (.iload 5, 2) := by decide +kernel
theorem dX10_fits_44 : decode cX10_fits 44 = .ok (.if_icmp .eq 5, 3) := by decide +kernel
theorem dX10_fits_47 : decode cX10_fits 47 = .ok (.iconst 0, 1) := by decide +kernel
theorem dX10_fits_48 : decode cX10_fits 48 = .ok (.ireturn, 1) := by decide +kernel
theorem dX10_fits_49 : decode cX10_fits 49 = .ok (.iload_n 3, 1) := by decide +kernel
theorem dX10_fits_50 : decode cX10_fits 50 = .ok (.tableswitch 136 0 2 #[26, 43, 103], 26) := by decide +kernel
theorem dX10_fits_76 : decode cX10_fits 76 = .ok (.aload_n 0, 1) := by decide +kernel
theorem dX10_fits_77 : decode cX10_fits 77 = .ok (.iload 4, 2) := by decide +kernel
theorem dX10_fits_79 : decode cX10_fits 79 = .ok (.invokevirtual 119, 3) := by decide +kernel
theorem dX10_fits_82 : decode cX10_fits 82 = .ok (.aload_n 1, 1) := by decide +kernel
theorem dX10_fits_83 : decode cX10_fits 83 = .ok (.lload 6, 2) := by decide +kernel
theorem dX10_fits_85 : decode cX10_fits 85 = .ok (.l2i, 1) := by decide +kernel
theorem dX10_fits_86 : decode cX10_fits 86 = .ok (.invokevirtual 123, 3) := by decide +kernel
theorem dX10_fits_89 : decode cX10_fits 89 = .ok (.invokestatic 125, 3) := by decide +kernel
theorem dX10_fits_92 : decode cX10_fits 92 = .ok (.ireturn, 1) := by decide +kernel
theorem dX10_fits_93 : decode cX10_fits 93 = .ok (.aload_n 0, 1) := by decide +kernel
theorem dX10_fits_94 : decode cX10_fits 94 = .ok (.getfield 12, 3) := by decide +kernel
theorem dX10_fits_97 : decode cX10_fits 97 = .ok (.getfield 129, 3) := by decide +kernel
theorem dX10_fits_100 : decode cX10_fits 100 = .ok (.iload 4, 2) := by decide +kernel
theorem dX10_fits_102 : decode cX10_fits 102 = .ok (.invokestatic 104, 3) := by decide +kernel
theorem dX10_fits_105 : decode cX10_fits 105 = .ok (.i2l, 1) := by decide +kernel
theorem dX10_fits_106 : decode cX10_fits 106 = .ok (.lload 6, 2) := by decide +kernel
theorem dX10_fits_108 : decode cX10_fits 108 = .ok (.lcmp, 1) := by decide +kernel
theorem dX10_fits_109 : decode cX10_fits 109 = .ok (.ifCond .ne 42, 3) := by decide +kernel
theorem dX10_fits_112 : decode cX10_fits 112 = .ok (.aload_n 1, 1) := by decide +kernel
theorem dX10_fits_113 : decode cX10_fits 113 = .ok (.getfield 99, 3) := by decide +kernel
theorem dX10_fits_116 : decode cX10_fits 116 = .ok (.iload_n 2, 1) := by decide +kernel
theorem dX10_fits_117 : decode cX10_fits 117 = .ok (.aload_n 0, 1) := by decide +kernel
theorem dX10_fits_118 : decode cX10_fits 118 = .ok (.getfield 12, 3) := by decide +kernel
theorem dX10_fits_121 : decode cX10_fits 121 = .ok (.getfield 132, 3) := by decide +kernel
theorem dX10_fits_124 : decode cX10_fits 124 = .ok (.iload 4, 2) := by decide +kernel
theorem dX10_fits_126 : decode cX10_fits 126 = .ok (.invokestatic 104, 3) := by decide +kernel
theorem dX10_fits_129 : decode cX10_fits 129 = .ok (.aload_n 0, 1) := by decide +kernel
theorem dX10_fits_130 : decode cX10_fits 130 = .ok (.getfield 12, 3) := by decide +kernel
theorem dX10_fits_133 : decode cX10_fits 133 = .ok (.getfield 135, 3) := by decide +kernel
theorem dX10_fits_136 : decode cX10_fits 136 = .ok (.iload 4, 2) := by decide +kernel
theorem dX10_fits_138 : decode cX10_fits 138 = .ok (.invokestatic 112, 3) := by decide +kernel
theorem dX10_fits_141 : decode cX10_fits 141 = .ok (.invokestatic 138, 3) := by decide +kernel
theorem dX10_fits_144 : decode cX10_fits 144 = .ok (.ifCond .eq 7, 3) := by decide +kernel
theorem dX10_fits_147 : decode cX10_fits 147 = .ok (.iconst 1, 1) := by decide +kernel
theorem dX10_fits_148 : decode cX10_fits 148 = .ok (.goto 4, 3) := by decide +kernel
theorem dX10_fits_151 : decode cX10_fits 151 = .ok (.iconst 0, 1) := by decide +kernel
theorem dX10_fits_152 : decode cX10_fits 152 = .ok (.ireturn, 1) := by decide +kernel
theorem dX10_fits_153 : decode cX10_fits 153 = .ok (.aload_n 1, 1) := by decide +kernel
theorem dX10_fits_154 : decode cX10_fits 154 = .ok (.getfield 99, 3) := by decide +kernel
theorem dX10_fits_157 : decode cX10_fits 157 = .ok (.iload_n 2, 1) := by decide +kernel
theorem dX10_fits_158 : decode cX10_fits 158 = .ok (.aload_n 0, 1) := by decide +kernel
theorem dX10_fits_159 : decode cX10_fits 159 = .ok (.getfield 21, 3) := by decide +kernel
theorem dX10_fits_162 : decode cX10_fits 162 = .ok (.getfield 142, 3) := by decide +kernel
theorem dX10_fits_165 : decode cX10_fits 165 = .ok (.iload 4, 2) := by decide +kernel
theorem dX10_fits_167 : decode cX10_fits 167 = .ok (.invokestatic 104, 3) := by decide +kernel
theorem dX10_fits_170 : decode cX10_fits 170 = .ok (.aload_n 0, 1) := by decide +kernel
theorem dX10_fits_171 : decode cX10_fits 171 = .ok (.getfield 21, 3) := by decide +kernel
theorem dX10_fits_174 : decode cX10_fits 174 = .ok (.getfield 143, 3) := by decide +kernel
theorem dX10_fits_177 : decode cX10_fits 177 = .ok (.iload 4, 2) := by decide +kernel
theorem dX10_fits_179 : decode cX10_fits 179 = .ok (.invokestatic 112, 3) := by decide +kernel
theorem dX10_fits_182 : decode cX10_fits 182 = .ok (.invokestatic 138, 3) := by decide +kernel
theorem dX10_fits_185 : decode cX10_fits 185 = .ok (.ireturn, 1) := by decide +kernel
theorem dX10_fits_186 : decode cX10_fits 186 = .ok (.iload 4, 2) := by decide +kernel
theorem dX10_fits_188 : decode cX10_fits 188 = .ok (.ifCond .lt 25, 3) := by decide +kernel
theorem dX10_fits_191 : decode cX10_fits 191 = .ok (.iload 4, 2) := by decide +kernel
theorem dX10_fits_193 : decode cX10_fits 193 = .ok (.sipush 256, 3) := by decide +kernel
theorem dX10_fits_196 : decode cX10_fits 196 = .ok (.if_icmp .ge 17, 3) := by decide +kernel
theorem dX10_fits_199 : decode cX10_fits 199 = .ok (.aload_n 0, 1) := by decide +kernel
theorem dX10_fits_200 : decode cX10_fits 200 = .ok (.getfield 33, 3) := by decide +kernel
theorem dX10_fits_203 : decode cX10_fits 203 = .ok (.iload 4, 2) := by decide +kernel
theorem dX10_fits_205 : decode cX10_fits 205 = .ok (.baload, 1) := by decide +kernel
theorem dX10_fits_206 : decode cX10_fits 206 = .ok (.ifCond .eq 7, 3) := by decide +kernel
theorem dX10_fits_209 : decode cX10_fits 209 = .ok (.iconst 1, 1) := by decide +kernel
theorem dX10_fits_210 : decode cX10_fits 210 = .ok (.goto 4, 3) := by decide +kernel
theorem dX10_fits_213 : decode cX10_fits 213 = .ok (.iconst 0, 1) := by decide +kernel
theorem dX10_fits_214 : decode cX10_fits 214 = .ok (.istore 8, 2) := by decide +kernel
theorem dX10_fits_216 : decode cX10_fits 216 = .ok (.aload_n 0, 1) := by decide +kernel
theorem dX10_fits_217 : decode cX10_fits 217 = .ok (.getfield 25, 3) := by decide +kernel
theorem dX10_fits_220 : decode cX10_fits 220 = .ok (.iload 4, 2) := by decide +kernel
theorem dX10_fits_222 : decode cX10_fits 222 = .ok (.invokestatic 104, 3) := by decide +kernel
theorem dX10_fits_225 : decode cX10_fits 225 = .ok (.i2l, 1) := by decide +kernel
theorem dX10_fits_226 : decode cX10_fits 226 = .ok (.lload 6, 2) := by decide +kernel
theorem dX10_fits_228 : decode cX10_fits 228 = .ok (.lcmp, 1) := by decide +kernel
theorem dX10_fits_229 : decode cX10_fits 229 = .ok (.ifCond .ne 32, 3) := by decide +kernel
theorem dX10_fits_232 : decode cX10_fits 232 = .ok (.iload 8, 2) := by decide +kernel
theorem dX10_fits_234 : decode cX10_fits 234 = .ok (.aload_n 1, 1) := by decide +kernel
theorem dX10_fits_235 : decode cX10_fits 235 = .ok (.getfield 99, 3) := by decide +kernel
theorem dX10_fits_238 : decode cX10_fits 238 = .ok (.iload_n 2, 1) := by decide +kernel
theorem dX10_fits_239 : decode cX10_fits 239 = .ok (.iconst 2, 1) := by decide +kernel
theorem dX10_fits_240 : decode cX10_fits 240 = .ok (.iadd, 1) := by decide +kernel
theorem dX10_fits_241 : decode cX10_fits 241 = .ok (.invokestatic 112, 3) := by decide +kernel
theorem dX10_fits_244 : decode cX10_fits 244 = .ok (.lconst 1, 1) := by decide +kernel
theorem dX10_fits_245 : decode cX10_fits 245 = .ok (.lcmp, 1) := by decide +kernel
theorem dX10_fits_246 : decode cX10_fits 246 = .ok (.ifCond .ne 7, 3) := by decide +kernel
theorem dX10_fits_249 : decode cX10_fits 249 = .ok (.iconst 1, 1) := by decide +kernel
theorem dX10_fits_250 : decode cX10_fits 250 = .ok (.goto 4, 3) := by decide +kernel
theorem dX10_fits_253 : decode cX10_fits 253 = .ok (.iconst 0, 1) := by decide +kernel
theorem dX10_fits_254 : decode cX10_fits 254 = .ok (.if_icmp .ne 7, 3) := by decide +kernel
theorem dX10_fits_257 : decode cX10_fits 257 = .ok (.iconst 1, 1) := by decide +kernel
theorem dX10_fits_258 : decode cX10_fits 258 = .ok (.goto 4, 3) := by decide +kernel
theorem dX10_fits_261 : decode cX10_fits 261 = .ok (.iconst 0, 1) := by decide +kernel
theorem dX10_fits_262 : decode cX10_fits 262 = .ok (.ireturn, 1) := by decide +kernel
noncomputable def fX10_fits_b214 (h : pm_H) (x0 : Nat) (x1 : Nat) (x2 : Int32) (x4 : Int32) (x6 : Int64) (s0 : Int32) : Option (Int32 × pm_H) := if pm_kd h x0 = 10 then (pm_R h x0 6).bind fun v66 => (fX12_item h v66 x4).bind fun v68 => if v68.toInt64 = x6 then (if pm_kd h x1 = 7 then (pm_R h x1 3).bind fun v72 => (fX12_item_ h v72 (x2 + 2)).bind fun v74 => if v74 = 1 then (if s0 = 1 then (some ((1, h))) else (some ((0, h)))) else (if s0 = 0 then (some ((1, h))) else (some ((0, h)))) else none) else (some ((0, h))) else none
noncomputable def fX10_fits_b213 (h : pm_H) (x0 : Nat) (x1 : Nat) (x2 : Int32) (x4 : Int32) (x6 : Int64) : Option (Int32 × pm_H) := fX10_fits_b214 h x0 x1 x2 x4 x6 0
noncomputable def fX10_fits_b89 (h : pm_H) (s0 : Nat) (s1 : Nat) : Option (Int32 × pm_H) := (fX10_isSameShape h s1 s0).bind fun v62 => if v62 = 0 ∨ v62 = 1 then some ((v62, h)) else none
noncomputable def fX10_fits_b0 (h : pm_H) (x0 : Nat) (x1 : Nat) (x2 : Int32) (x3 : Int32) (x4 : Int32) : Option (Int32 × pm_H) := if pm_kd h x1 = 7 then (pm_R h x1 3).bind fun v2 => (fX12_item_ h v2 (x2 + 0)).bind fun v4 => (fX12_item_ h v2 (x2 + 1)).bind fun v6 => if x3 = (-1) then (if v4.toInt32 = 0 then (some ((1, h))) else (some ((0, h)))) else (if x3 = v4.toInt32 then (if x3 = 0 then (if pm_kd h x0 = 10 then (fX10_shapeOf h x0 x4).bind fun v12 => (fX7_shape h x1 v6.toInt32).bind fun v14 => fX10_fits_b89 v14.2 v14.1 v12 else none) else (if x3 = 1 then (if pm_kd h x0 = 10 then (pm_R h x0 4).bind fun v18 => if pm_kd h v18 = 11 then (pm_R h v18 2).bind fun v21 => (fX12_item h v21 x4).bind fun v23 => if v23.toInt64 = v6 then ((pm_R h v18 3).bind fun v26 => (fX12_item h v26 x4).bind fun v28 => (pm_R h v18 4).bind fun v30 => (fX12_item_ h v30 x4).bind fun v32 => (fX10_isLimited h v2 x2 v28 v32).bind fun v34 => if v34 = 0 then (some ((0, h))) else (some ((1, h)))) else (some ((0, h))) else none else none) else (if x3 = 2 then (if pm_kd h x0 = 10 then (pm_R h x0 5).bind fun v39 => if pm_kd h v39 = 6 then (pm_R h v39 2).bind fun v42 => (fX12_item h v42 x4).bind fun v44 => (pm_R h v39 3).bind fun v46 => (fX12_item_ h v46 x4).bind fun v48 => (fX10_isLimited h v2 x2 v44 v48).bind fun v50 => if v50 = 0 ∨ v50 = 1 then some ((v50, h)) else none else none else none) else (if x4 < 0 then (fX10_fits_b213 h x0 x1 x2 x4 v6) else (if 256 ≤ x4 then (fX10_fits_b213 h x0 x1 x2 x4 v6) else (if pm_kd h x0 = 10 then (pm_R h x0 8).bind fun v56 => if pm_kd h v56 = 32 then if pm_in x4 (pm_ln h v56) then if (pm_I h v56 x4.toNatClampNeg) = 0 then (fX10_fits_b213 h x0 x1 x2 x4 v6) else (fX10_fits_b214 h x0 x1 x2 x4 v6 1) else none else none else none)))))) else (some ((0, h)))) else none
noncomputable def fX10_fits (h : pm_H) (a0 : Nat) (p1 : Nat) (p2 : Int32) (p3 : Int32) (p4 : Int32) : Option (Int32 × pm_H) := fX10_fits_b0 h a0 p1 p2 p3 p4
set_option maxHeartbeats 4000000 in
set_option maxRecDepth 100000 in
theorem moX10_fits_b214 {h : pm_H} {x0 : Nat} {x1 : Nat} {x2 : Int32} {x4 : Int32} {x6 : Int64} {s0 : Int32} {r : (Int32 × pm_H)} (hf : fX10_fits_b214 h x0 x1 x2 x4 x6 s0 = some r) : pm_Le h r.2 := by
  unfold fX10_fits_b214 at hf
  have K0 := pm_S3.rf h
  obtain ⟨k65, hf⟩ := pm_if hf
  obtain ⟨v66, e67, hf⟩ := pm_bd hf
  obtain ⟨v68, e69, hf⟩ := pm_bd hf
  by_cases c70 : v68.toInt64 = x6
  · have hf := pm_it hf c70
    obtain ⟨k71, hf⟩ := pm_if hf
    obtain ⟨v72, e73, hf⟩ := pm_bd hf
    obtain ⟨v74, e75, hf⟩ := pm_bd hf
    by_cases c76 : v74 = 1
    · have hf := pm_it hf c76
      by_cases c77 : s0 = 1
      · have hf := pm_it hf c77
        have hf := Option.some.inj hf
        subst hf
        exact pm_S3.le K0
      · have hf := pm_ie hf c77
        have hf := Option.some.inj hf
        subst hf
        exact pm_S3.le K0
    · have hf := pm_ie hf c76
      by_cases c78 : s0 = 0
      · have hf := pm_it hf c78
        have hf := Option.some.inj hf
        subst hf
        exact pm_S3.le K0
      · have hf := pm_ie hf c78
        have hf := Option.some.inj hf
        subst hf
        exact pm_S3.le K0
  · have hf := pm_ie hf c70
    have hf := Option.some.inj hf
    subst hf
    exact pm_S3.le K0
set_option maxHeartbeats 4000000 in
set_option maxRecDepth 100000 in
theorem moX10_fits_b213 {h : pm_H} {x0 : Nat} {x1 : Nat} {x2 : Int32} {x4 : Int32} {x6 : Int64} {r : (Int32 × pm_H)} (hf : fX10_fits_b213 h x0 x1 x2 x4 x6 = some r) : pm_Le h r.2 := by
  unfold fX10_fits_b213 at hf
  have K0 := pm_S3.rf h
  exact (pm_S3.le K0).trans (moX10_fits_b214 hf)
set_option maxHeartbeats 4000000 in
set_option maxRecDepth 100000 in
theorem moX10_fits_b89 {h : pm_H} {s0 : Nat} {s1 : Nat} {r : (Int32 × pm_H)} (hf : fX10_fits_b89 h s0 s1 = some r) : pm_Le h r.2 := by
  unfold fX10_fits_b89 at hf
  have K0 := pm_S3.rf h
  obtain ⟨v62, e63, hf⟩ := pm_bd hf
  obtain ⟨u64, hf⟩ := pm_if hf
  have hf := Option.some.inj hf
  subst hf
  exact pm_S3.le K0
set_option maxHeartbeats 4000000 in
set_option maxRecDepth 100000 in
theorem moX10_fits_b0 {h : pm_H} {x0 : Nat} {x1 : Nat} {x2 : Int32} {x3 : Int32} {x4 : Int32} {r : (Int32 × pm_H)} (hf : fX10_fits_b0 h x0 x1 x2 x3 x4 = some r) : pm_Le h r.2 := by
  unfold fX10_fits_b0 at hf
  have K0 := pm_S3.rf h
  obtain ⟨k1, hf⟩ := pm_if hf
  obtain ⟨v2, e3, hf⟩ := pm_bd hf
  obtain ⟨v4, e5, hf⟩ := pm_bd hf
  obtain ⟨v6, e7, hf⟩ := pm_bd hf
  by_cases c8 : x3 = (-1)
  · have hf := pm_it hf c8
    by_cases c9 : v4.toInt32 = 0
    · have hf := pm_it hf c9
      have hf := Option.some.inj hf
      subst hf
      exact pm_S3.le K0
    · have hf := pm_ie hf c9
      have hf := Option.some.inj hf
      subst hf
      exact pm_S3.le K0
  · have hf := pm_ie hf c8
    by_cases c10 : x3 = v4.toInt32
    · have hf := pm_it hf c10
      by_cases c11 : x3 = 0
      · have hf := pm_it hf c11
        obtain ⟨k12, hf⟩ := pm_if hf
        obtain ⟨v13, e14, hf⟩ := pm_bd hf
        obtain ⟨v15, e16, hf⟩ := pm_bd hf
        exact ((pm_S3.le K0).trans (moX7_shape e16)).trans (moX10_fits_b89 hf)
      have hf := pm_ie hf c11
      by_cases c17 : x3 = 1
      · have hf := pm_it hf c17
        obtain ⟨k18, hf⟩ := pm_if hf
        obtain ⟨v19, e20, hf⟩ := pm_bd hf
        obtain ⟨k21, hf⟩ := pm_if hf
        obtain ⟨v22, e23, hf⟩ := pm_bd hf
        obtain ⟨v24, e25, hf⟩ := pm_bd hf
        by_cases c26 : v24.toInt64 = v6
        · have hf := pm_it hf c26
          obtain ⟨v27, e28, hf⟩ := pm_bd hf
          obtain ⟨v29, e30, hf⟩ := pm_bd hf
          obtain ⟨v31, e32, hf⟩ := pm_bd hf
          obtain ⟨v33, e34, hf⟩ := pm_bd hf
          obtain ⟨v35, e36, hf⟩ := pm_bd hf
          by_cases c37 : v35 = 0
          · have hf := pm_it hf c37
            have hf := Option.some.inj hf
            subst hf
            exact pm_S3.le K0
          · have hf := pm_ie hf c37
            have hf := Option.some.inj hf
            subst hf
            exact pm_S3.le K0
        · have hf := pm_ie hf c26
          have hf := Option.some.inj hf
          subst hf
          exact pm_S3.le K0
      have hf := pm_ie hf c17
      by_cases c38 : x3 = 2
      · have hf := pm_it hf c38
        obtain ⟨k39, hf⟩ := pm_if hf
        obtain ⟨v40, e41, hf⟩ := pm_bd hf
        obtain ⟨k42, hf⟩ := pm_if hf
        obtain ⟨v43, e44, hf⟩ := pm_bd hf
        obtain ⟨v45, e46, hf⟩ := pm_bd hf
        obtain ⟨v47, e48, hf⟩ := pm_bd hf
        obtain ⟨v49, e50, hf⟩ := pm_bd hf
        obtain ⟨v51, e52, hf⟩ := pm_bd hf
        obtain ⟨u53, hf⟩ := pm_if hf
        have hf := Option.some.inj hf
        subst hf
        exact pm_S3.le K0
      have hf := pm_ie hf c38
      by_cases c54 : x4 < 0
      · have hf := pm_it hf c54
        exact (pm_S3.le K0).trans (moX10_fits_b213 hf)
      · have hf := pm_ie hf c54
        by_cases c55 : 256 ≤ x4
        · have hf := pm_it hf c55
          exact (pm_S3.le K0).trans (moX10_fits_b213 hf)
        · have hf := pm_ie hf c55
          obtain ⟨k56, hf⟩ := pm_if hf
          obtain ⟨v57, e58, hf⟩ := pm_bd hf
          obtain ⟨k59, hf⟩ := pm_if hf
          obtain ⟨u60, hf⟩ := pm_if hf
          by_cases c61 : (pm_I h v57 x4.toNatClampNeg) = 0
          · have hf := pm_it hf c61
            exact (pm_S3.le K0).trans (moX10_fits_b213 hf)
          · have hf := pm_ie hf c61
            exact (pm_S3.le K0).trans (moX10_fits_b214 hf)
    · have hf := pm_ie hf c10
      have hf := Option.some.inj hf
      subst hf
      exact pm_S3.le K0
set_option maxHeartbeats 4000000 in
set_option maxRecDepth 100000 in
theorem moX10_fits {h : pm_H} {a0 : Nat} {p1 : Nat} {p2 : Int32} {p3 : Int32} {p4 : Int32} {r : (Int32 × pm_H)} (hf : fX10_fits h a0 p1 p2 p3 p4 = some r) : pm_Le h r.2 := by
  unfold fX10_fits at hf
  have K0 := pm_S3.rf h
  exact (pm_S3.le K0).trans (moX10_fits_b0 hf)
set_option maxHeartbeats 4000000 in
set_option maxRecDepth 100000 in
theorem bX10_fits_214 {g : pm_Gm} {l : Launch} {G : pm_Gl} {Qr : Option Value → pm_H → Prop} (C : pm_C g cX10_fits RX10) {h0 h : pm_H} {x0 : Nat} {x1 : Nat} {x2 : Int32} {x4 : Int32} {x6 : Int64} {s0 : Int32} {r : (Int32 × pm_H)} (X : pm_X g l G mX10_fits (pm_sz r.2 - pm_sz h0) (pm_us r.2 - pm_us h0) Qr) (m0 : pm_Le h0 h) (hf : fX10_fits_b214 h x0 x1 x2 x4 x6 s0 = some r) (q : Qr (some (.int r.1)) r.2) : pm_G g 214 [(0, .ref x0), (1, .ref x1), (2, .int x2), (4, .int x4), (6, .long x6)] [.int s0] h (pm_sz h - pm_sz h0) (pm_us h - pm_us h0) := by
  have le0 := moX10_fits_b214 hf
  have kc1 := Nat.sub_le_sub_right le0.1 (pm_sz h0)
  have kc2 := Nat.sub_le_sub_right le0.2 (pm_us h0)
  have K0 := pm_S3.rf h
  unfold fX10_fits_b214 at hf
  refine pm_istore (lv' := [(8, .int s0), (0, .ref x0), (1, .ref x1), (2, .int x2), (4, .int x4), (6, .long x6)]) C dX10_fits_214 (pm_nl X (by decide)) rfl ?_
  refine pm_aload_n C dX10_fits_216 rfl rfl ?_
  obtain ⟨k65, hf⟩ := pm_if hf
  obtain ⟨v66, e67, hf⟩ := pm_bd hf
  refine pm_getR C dX10_fits_217 flX10_25 rfl k65 e67 ?_
  refine pm_iload C dX10_fits_220 rfl ?_
  obtain ⟨v68, e69, hf⟩ := pm_bd hf
  refine pm_callS (as := [.ref v66, .int x4]) (st := []) C X dX10_fits_222 lnX10_104 myX12_item stX12_item ⟨by decide, by decide⟩ rfl rfl (Nat.le_of_ble_eq_true rfl) kc1 kc2 (ctX12_item e69 ?_)
  show pm_G g 225 [(8, .int s0), (0, .ref x0), (1, .ref x1), (2, .int x2), (4, .int x4), (6, .long x6)] [.int v68] h (pm_sz h - pm_sz h0) (pm_us h - pm_us h0)
  refine pm_i2l C dX10_fits_225 ?_
  refine pm_lload C dX10_fits_226 rfl ?_
  refine pm_lcmp C dX10_fits_228 ?_
  refine pm_if_ne (tgt := 261) C dX10_fits_229 (by decide) (fun c70 => ?_) (fun c70 => ?_)
  · have hf := pm_ie hf ((fun z => c70 ((pm_lg_eq _ _).mpr z)))
    refine pm_iconst (v := 0) C dX10_fits_261 (by decide) ?_
    have hf := Option.some.inj hf
    subst hf
    exact pm_zret C X dX10_fits_262 rfl (by decide) kc1 kc2 q
  · have hf := pm_it hf ((pm_lg_eq _ _).mp c70)
    refine pm_iload C dX10_fits_232 rfl ?_
    refine pm_aload_n C dX10_fits_234 rfl rfl ?_
    obtain ⟨k71, hf⟩ := pm_if hf
    obtain ⟨v72, e73, hf⟩ := pm_bd hf
    refine pm_getR C dX10_fits_235 flX10_99 rfl k71 e73 ?_
    refine pm_iload_n C dX10_fits_238 rfl rfl ?_
    refine pm_iconst (v := 2) C dX10_fits_239 (by decide) ?_
    refine pm_iadd C dX10_fits_240 ?_
    obtain ⟨v74, e75, hf⟩ := pm_bd hf
    refine pm_callS (as := [.ref v72, .int (x2 + 2)]) (st := [.int s0]) C X dX10_fits_241 lnX10_112 myX12_item_ stX12_item_ ⟨by decide, by decide⟩ rfl rfl (Nat.le_of_ble_eq_true rfl) kc1 kc2 (ctX12_item_ e75 ?_)
    show pm_G g 244 [(8, .int s0), (0, .ref x0), (1, .ref x1), (2, .int x2), (4, .int x4), (6, .long x6)] [.long v74, .int s0] h (pm_sz h - pm_sz h0) (pm_us h - pm_us h0)
    refine pm_lconst (v := 1) C dX10_fits_244 (by decide) ?_
    refine pm_lcmp C dX10_fits_245 ?_
    refine pm_if_ne (tgt := 253) C dX10_fits_246 (by decide) (fun c76 => ?_) (fun c76 => ?_)
    · have hf := pm_ie hf ((fun z => c76 ((pm_lg_eq _ _).mpr z)))
      refine pm_iconst (v := 0) C dX10_fits_253 (by decide) ?_
      refine pm_icmp_ne (tgt := 261) C dX10_fits_254 (by decide) (fun c77 => ?_) (fun c77 => ?_)
      · have hf := pm_ie hf c77
        refine pm_iconst (v := 0) C dX10_fits_261 (by decide) ?_
        have hf := Option.some.inj hf
        subst hf
        exact pm_zret C X dX10_fits_262 rfl (by decide) kc1 kc2 q
      · have hf := pm_it hf c77
        refine pm_iconst (v := 1) C dX10_fits_257 (by decide) ?_
        refine pm_goto (tgt := 262) C dX10_fits_258 (by decide) ?_
        have hf := Option.some.inj hf
        subst hf
        exact pm_zret C X dX10_fits_262 rfl (by decide) kc1 kc2 q
    · have hf := pm_it hf ((pm_lg_eq _ _).mp c76)
      refine pm_iconst (v := 1) C dX10_fits_249 (by decide) ?_
      refine pm_goto (tgt := 254) C dX10_fits_250 (by decide) ?_
      refine pm_icmp_ne (tgt := 261) C dX10_fits_254 (by decide) (fun c78 => ?_) (fun c78 => ?_)
      · have hf := pm_ie hf c78
        refine pm_iconst (v := 0) C dX10_fits_261 (by decide) ?_
        have hf := Option.some.inj hf
        subst hf
        exact pm_zret C X dX10_fits_262 rfl (by decide) kc1 kc2 q
      · have hf := pm_it hf c78
        refine pm_iconst (v := 1) C dX10_fits_257 (by decide) ?_
        refine pm_goto (tgt := 262) C dX10_fits_258 (by decide) ?_
        have hf := Option.some.inj hf
        subst hf
        exact pm_zret C X dX10_fits_262 rfl (by decide) kc1 kc2 q
set_option maxHeartbeats 4000000 in
set_option maxRecDepth 100000 in
theorem bX10_fits_213 {g : pm_Gm} {l : Launch} {G : pm_Gl} {Qr : Option Value → pm_H → Prop} (C : pm_C g cX10_fits RX10) {h0 h : pm_H} {x0 : Nat} {x1 : Nat} {x2 : Int32} {x4 : Int32} {x6 : Int64} {r : (Int32 × pm_H)} (X : pm_X g l G mX10_fits (pm_sz r.2 - pm_sz h0) (pm_us r.2 - pm_us h0) Qr) (m0 : pm_Le h0 h) (hf : fX10_fits_b213 h x0 x1 x2 x4 x6 = some r) (q : Qr (some (.int r.1)) r.2) : pm_G g 213 [(0, .ref x0), (1, .ref x1), (2, .int x2), (4, .int x4), (6, .long x6)] [] h (pm_sz h - pm_sz h0) (pm_us h - pm_us h0) := by
  have le0 := moX10_fits_b213 hf
  have kc1 := Nat.sub_le_sub_right le0.1 (pm_sz h0)
  have kc2 := Nat.sub_le_sub_right le0.2 (pm_us h0)
  have K0 := pm_S3.rf h
  unfold fX10_fits_b213 at hf
  refine pm_iconst (v := 0) C dX10_fits_213 (by decide) ?_
  exact pa_join K0 (pm_sub [0, 1, 2, 3, 4] rfl (bX10_fits_214 C X (m0.trans (pm_S3.le K0)) hf q))
set_option maxHeartbeats 4000000 in
set_option maxRecDepth 100000 in
theorem bX10_fits_89 {g : pm_Gm} {l : Launch} {G : pm_Gl} {Qr : Option Value → pm_H → Prop} (C : pm_C g cX10_fits RX10) {h0 h : pm_H} {s0 : Nat} {s1 : Nat} {r : (Int32 × pm_H)} (X : pm_X g l G mX10_fits (pm_sz r.2 - pm_sz h0) (pm_us r.2 - pm_us h0) Qr) (m0 : pm_Le h0 h) (hf : fX10_fits_b89 h s0 s1 = some r) (q : Qr (some (.int r.1)) r.2) : pm_G g 89 [] [.ref s0, .ref s1] h (pm_sz h - pm_sz h0) (pm_us h - pm_us h0) := by
  have le0 := moX10_fits_b89 hf
  have kc1 := Nat.sub_le_sub_right le0.1 (pm_sz h0)
  have kc2 := Nat.sub_le_sub_right le0.2 (pm_us h0)
  have K0 := pm_S3.rf h
  unfold fX10_fits_b89 at hf
  obtain ⟨v62, e63, hf⟩ := pm_bd hf
  refine pm_callS (as := [.ref s1, .ref s0]) (st := []) C X dX10_fits_89 lnX10_125 myX10_isSameShape stX10_isSameShape ⟨by decide, by decide⟩ rfl rfl (Nat.le_of_ble_eq_true rfl) kc1 kc2 (ctX10_isSameShape e63 ?_)
  show pm_G g 92 [] [.int v62] h (pm_sz h - pm_sz h0) (pm_us h - pm_us h0)
  obtain ⟨u64, hf⟩ := pm_if hf
  have hf := Option.some.inj hf
  subst hf
  exact pm_zret C X dX10_fits_92 rfl (pm_b01 u64).1 kc1 kc2 q
set_option maxHeartbeats 4000000 in
set_option maxRecDepth 100000 in
theorem bX10_fits_0 {g : pm_Gm} {l : Launch} {G : pm_Gl} {Qr : Option Value → pm_H → Prop} (C : pm_C g cX10_fits RX10) {h0 h : pm_H} {x0 : Nat} {x1 : Nat} {x2 : Int32} {x3 : Int32} {x4 : Int32} {r : (Int32 × pm_H)} (X : pm_X g l G mX10_fits (pm_sz r.2 - pm_sz h0) (pm_us r.2 - pm_us h0) Qr) (m0 : pm_Le h0 h) (hf : fX10_fits_b0 h x0 x1 x2 x3 x4 = some r) (q : Qr (some (.int r.1)) r.2) : pm_G g 0 [(0, .ref x0), (1, .ref x1), (2, .int x2), (3, .int x3), (4, .int x4)] [] h (pm_sz h - pm_sz h0) (pm_us h - pm_us h0) := by
  have le0 := moX10_fits_b0 hf
  have kc1 := Nat.sub_le_sub_right le0.1 (pm_sz h0)
  have kc2 := Nat.sub_le_sub_right le0.2 (pm_us h0)
  have K0 := pm_S3.rf h
  unfold fX10_fits_b0 at hf
  refine pm_aload_n C dX10_fits_0 rfl rfl ?_
  obtain ⟨k1, hf⟩ := pm_if hf
  obtain ⟨v2, e3, hf⟩ := pm_bd hf
  refine pm_getR C dX10_fits_1 flX10_99 rfl k1 e3 ?_
  refine pm_iload_n C dX10_fits_4 rfl rfl ?_
  refine pm_iconst (v := 0) C dX10_fits_5 (by decide) ?_
  refine pm_iadd C dX10_fits_6 ?_
  obtain ⟨v4, e5, hf⟩ := pm_bd hf
  refine pm_callS (as := [.ref v2, .int (x2 + 0)]) (st := []) C X dX10_fits_7 lnX10_112 myX12_item_ stX12_item_ ⟨by decide, by decide⟩ rfl rfl (Nat.le_of_ble_eq_true rfl) kc1 kc2 (ctX12_item_ e5 ?_)
  show pm_G g 10 [(0, .ref x0), (1, .ref x1), (2, .int x2), (3, .int x3), (4, .int x4)] [.long v4] h (pm_sz h - pm_sz h0) (pm_us h - pm_us h0)
  refine pm_l2i C dX10_fits_10 ?_
  refine pm_istore (lv' := [(5, .int v4.toInt32), (0, .ref x0), (1, .ref x1), (2, .int x2), (3, .int x3), (4, .int x4)]) C dX10_fits_11 (pm_nl X (by decide)) rfl ?_
  refine pm_aload_n C dX10_fits_13 rfl rfl ?_
  refine pm_getR C dX10_fits_14 flX10_99 rfl k1 e3 ?_
  refine pm_iload_n C dX10_fits_17 rfl rfl ?_
  refine pm_iconst (v := 1) C dX10_fits_18 (by decide) ?_
  refine pm_iadd C dX10_fits_19 ?_
  obtain ⟨v6, e7, hf⟩ := pm_bd hf
  refine pm_callS (as := [.ref v2, .int (x2 + 1)]) (st := []) C X dX10_fits_20 lnX10_112 myX12_item_ stX12_item_ ⟨by decide, by decide⟩ rfl rfl (Nat.le_of_ble_eq_true rfl) kc1 kc2 (ctX12_item_ e7 ?_)
  show pm_G g 23 [(5, .int v4.toInt32), (0, .ref x0), (1, .ref x1), (2, .int x2), (3, .int x3), (4, .int x4)] [.long v6] h (pm_sz h - pm_sz h0) (pm_us h - pm_us h0)
  refine pm_lstore (lv' := [(6, .long v6), (5, .int v4.toInt32), (0, .ref x0), (1, .ref x1), (2, .int x2), (3, .int x3), (4, .int x4)]) C dX10_fits_23 (pm_nl X (by decide)) rfl ?_
  refine pm_iload_n C dX10_fits_25 rfl rfl ?_
  refine pm_iconst (v := (-1)) C dX10_fits_26 (by decide) ?_
  refine pm_icmp_ne (tgt := 41) C dX10_fits_27 (by decide) (fun c8 => ?_) (fun c8 => ?_)
  · have hf := pm_ie hf c8
    refine pm_iload_n C dX10_fits_41 rfl rfl ?_
    refine pm_iload C dX10_fits_42 rfl ?_
    refine pm_icmp_eq (tgt := 49) C dX10_fits_44 (by decide) (fun c9 => ?_) (fun c9 => ?_)
    · have hf := pm_it hf c9
      refine pm_iload_n C dX10_fits_49 rfl rfl ?_
      by_cases c10 : x3 = 0
      · have hf := pm_it hf c10
        refine pm_tableIn (tgt := 76) C dX10_fits_50 (by rw [c10]; decide) (by rw [c10]; decide) (by rw [c10]; rfl) (by decide) ?_
        refine pm_aload_n C dX10_fits_76 rfl rfl ?_
        refine pm_iload C dX10_fits_77 rfl ?_
        obtain ⟨k11, hf⟩ := pm_if hf
        obtain ⟨v12, e13, hf⟩ := pm_bd hf
        refine pm_callV (as := [.int x4]) (st := []) C X dX10_fits_79 lnX10_119 myX10_shapeOf viX10_shapeOf ⟨by decide, by decide⟩ rfl rfl k11 (Nat.le_of_ble_eq_true rfl) kc1 kc2 (ctX10_shapeOf e13 ?_)
        show pm_G g 82 [(6, .long v6), (5, .int v4.toInt32), (0, .ref x0), (1, .ref x1), (2, .int x2), (3, .int x3), (4, .int x4)] [.ref v12] h (pm_sz h - pm_sz h0) (pm_us h - pm_us h0)
        refine pm_aload_n C dX10_fits_82 rfl rfl ?_
        refine pm_lload C dX10_fits_83 rfl ?_
        refine pm_l2i C dX10_fits_85 ?_
        obtain ⟨v14, e15, hf⟩ := pm_bd hf
        refine pm_callV (as := [.int v6.toInt32]) (st := [.ref v12]) C X dX10_fits_86 lnX10_123 myX7_shape viX7_shape ⟨by decide, by decide⟩ rfl rfl k1 (Nat.le_of_ble_eq_true rfl) (pa_le1 K0 m0 (moX7_shape e15) (moX10_fits_b89 hf)) (pa_le2 K0 m0 (moX7_shape e15) (moX10_fits_b89 hf)) (ctX7_shape e15 ?_)
        show pm_G g 89 [(6, .long v6), (5, .int v4.toInt32), (0, .ref x0), (1, .ref x1), (2, .int x2), (3, .int x3), (4, .int x4)] [.ref v14.1, .ref v12] v14.2 (pm_sz h - pm_sz h0 + (pm_sz v14.2 - pm_sz h)) (pm_us h - pm_us h0 + (pm_us v14.2 - pm_us h))
        refine pa_fin K0 m0 (moX7_shape e15) ?_
        exact pm_sub [] rfl (bX10_fits_89 C X ((m0.trans (pm_S3.le K0)).trans (moX7_shape e15)) hf q)
      have hf := pm_ie hf c10
      by_cases c16 : x3 = 1
      · have hf := pm_it hf c16
        refine pm_tableIn (tgt := 93) C dX10_fits_50 (by rw [c16]; decide) (by rw [c16]; decide) (by rw [c16]; rfl) (by decide) ?_
        refine pm_aload_n C dX10_fits_93 rfl rfl ?_
        obtain ⟨k17, hf⟩ := pm_if hf
        obtain ⟨v18, e19, hf⟩ := pm_bd hf
        refine pm_getR C dX10_fits_94 flX10_12 rfl k17 e19 ?_
        obtain ⟨k20, hf⟩ := pm_if hf
        obtain ⟨v21, e22, hf⟩ := pm_bd hf
        refine pm_getR C dX10_fits_97 flX10_129 rfl k20 e22 ?_
        refine pm_iload C dX10_fits_100 rfl ?_
        obtain ⟨v23, e24, hf⟩ := pm_bd hf
        refine pm_callS (as := [.ref v21, .int x4]) (st := []) C X dX10_fits_102 lnX10_104 myX12_item stX12_item ⟨by decide, by decide⟩ rfl rfl (Nat.le_of_ble_eq_true rfl) kc1 kc2 (ctX12_item e24 ?_)
        show pm_G g 105 [(6, .long v6), (5, .int v4.toInt32), (0, .ref x0), (1, .ref x1), (2, .int x2), (3, .int x3), (4, .int x4)] [.int v23] h (pm_sz h - pm_sz h0) (pm_us h - pm_us h0)
        refine pm_i2l C dX10_fits_105 ?_
        refine pm_lload C dX10_fits_106 rfl ?_
        refine pm_lcmp C dX10_fits_108 ?_
        refine pm_if_ne (tgt := 151) C dX10_fits_109 (by decide) (fun c25 => ?_) (fun c25 => ?_)
        · have hf := pm_ie hf ((fun z => c25 ((pm_lg_eq _ _).mpr z)))
          refine pm_iconst (v := 0) C dX10_fits_151 (by decide) ?_
          have hf := Option.some.inj hf
          subst hf
          exact pm_zret C X dX10_fits_152 rfl (by decide) kc1 kc2 q
        · have hf := pm_it hf ((pm_lg_eq _ _).mp c25)
          refine pm_aload_n C dX10_fits_112 rfl rfl ?_
          refine pm_getR C dX10_fits_113 flX10_99 rfl k1 e3 ?_
          refine pm_iload_n C dX10_fits_116 rfl rfl ?_
          refine pm_aload_n C dX10_fits_117 rfl rfl ?_
          refine pm_getR C dX10_fits_118 flX10_12 rfl k17 e19 ?_
          obtain ⟨v26, e27, hf⟩ := pm_bd hf
          refine pm_getR C dX10_fits_121 flX10_132 rfl k20 e27 ?_
          refine pm_iload C dX10_fits_124 rfl ?_
          obtain ⟨v28, e29, hf⟩ := pm_bd hf
          refine pm_callS (as := [.ref v26, .int x4]) (st := [.int x2, .ref v2]) C X dX10_fits_126 lnX10_104 myX12_item stX12_item ⟨by decide, by decide⟩ rfl rfl (Nat.le_of_ble_eq_true rfl) kc1 kc2 (ctX12_item e29 ?_)
          show pm_G g 129 [(6, .long v6), (5, .int v4.toInt32), (0, .ref x0), (1, .ref x1), (2, .int x2), (3, .int x3), (4, .int x4)] [.int v28, .int x2, .ref v2] h (pm_sz h - pm_sz h0) (pm_us h - pm_us h0)
          refine pm_aload_n C dX10_fits_129 rfl rfl ?_
          refine pm_getR C dX10_fits_130 flX10_12 rfl k17 e19 ?_
          obtain ⟨v30, e31, hf⟩ := pm_bd hf
          refine pm_getR C dX10_fits_133 flX10_135 rfl k20 e31 ?_
          refine pm_iload C dX10_fits_136 rfl ?_
          obtain ⟨v32, e33, hf⟩ := pm_bd hf
          refine pm_callS (as := [.ref v30, .int x4]) (st := [.int v28, .int x2, .ref v2]) C X dX10_fits_138 lnX10_112 myX12_item_ stX12_item_ ⟨by decide, by decide⟩ rfl rfl (Nat.le_of_ble_eq_true rfl) kc1 kc2 (ctX12_item_ e33 ?_)
          show pm_G g 141 [(6, .long v6), (5, .int v4.toInt32), (0, .ref x0), (1, .ref x1), (2, .int x2), (3, .int x3), (4, .int x4)] [.long v32, .int v28, .int x2, .ref v2] h (pm_sz h - pm_sz h0) (pm_us h - pm_us h0)
          obtain ⟨v34, e35, hf⟩ := pm_bd hf
          refine pm_callS (as := [.ref v2, .int x2, .int v28, .long v32]) (st := []) C X dX10_fits_141 lnX10_138 myX10_isLimited stX10_isLimited ⟨by decide, by decide⟩ rfl rfl (Nat.le_of_ble_eq_true rfl) kc1 kc2 (ctX10_isLimited e35 ?_)
          show pm_G g 144 [(6, .long v6), (5, .int v4.toInt32), (0, .ref x0), (1, .ref x1), (2, .int x2), (3, .int x3), (4, .int x4)] [.int v34] h (pm_sz h - pm_sz h0) (pm_us h - pm_us h0)
          refine pm_if_eq (tgt := 151) C dX10_fits_144 (by decide) (fun c36 => ?_) (fun c36 => ?_)
          · have hf := pm_it hf c36
            refine pm_iconst (v := 0) C dX10_fits_151 (by decide) ?_
            have hf := Option.some.inj hf
            subst hf
            exact pm_zret C X dX10_fits_152 rfl (by decide) kc1 kc2 q
          · have hf := pm_ie hf c36
            refine pm_iconst (v := 1) C dX10_fits_147 (by decide) ?_
            refine pm_goto (tgt := 152) C dX10_fits_148 (by decide) ?_
            have hf := Option.some.inj hf
            subst hf
            exact pm_zret C X dX10_fits_152 rfl (by decide) kc1 kc2 q
      have hf := pm_ie hf c16
      by_cases c37 : x3 = 2
      · have hf := pm_it hf c37
        refine pm_tableIn (tgt := 153) C dX10_fits_50 (by rw [c37]; decide) (by rw [c37]; decide) (by rw [c37]; rfl) (by decide) ?_
        refine pm_aload_n C dX10_fits_153 rfl rfl ?_
        refine pm_getR C dX10_fits_154 flX10_99 rfl k1 e3 ?_
        refine pm_iload_n C dX10_fits_157 rfl rfl ?_
        refine pm_aload_n C dX10_fits_158 rfl rfl ?_
        obtain ⟨k38, hf⟩ := pm_if hf
        obtain ⟨v39, e40, hf⟩ := pm_bd hf
        refine pm_getR C dX10_fits_159 flX10_21 rfl k38 e40 ?_
        obtain ⟨k41, hf⟩ := pm_if hf
        obtain ⟨v42, e43, hf⟩ := pm_bd hf
        refine pm_getR C dX10_fits_162 flX10_142 rfl k41 e43 ?_
        refine pm_iload C dX10_fits_165 rfl ?_
        obtain ⟨v44, e45, hf⟩ := pm_bd hf
        refine pm_callS (as := [.ref v42, .int x4]) (st := [.int x2, .ref v2]) C X dX10_fits_167 lnX10_104 myX12_item stX12_item ⟨by decide, by decide⟩ rfl rfl (Nat.le_of_ble_eq_true rfl) kc1 kc2 (ctX12_item e45 ?_)
        show pm_G g 170 [(6, .long v6), (5, .int v4.toInt32), (0, .ref x0), (1, .ref x1), (2, .int x2), (3, .int x3), (4, .int x4)] [.int v44, .int x2, .ref v2] h (pm_sz h - pm_sz h0) (pm_us h - pm_us h0)
        refine pm_aload_n C dX10_fits_170 rfl rfl ?_
        refine pm_getR C dX10_fits_171 flX10_21 rfl k38 e40 ?_
        obtain ⟨v46, e47, hf⟩ := pm_bd hf
        refine pm_getR C dX10_fits_174 flX10_143 rfl k41 e47 ?_
        refine pm_iload C dX10_fits_177 rfl ?_
        obtain ⟨v48, e49, hf⟩ := pm_bd hf
        refine pm_callS (as := [.ref v46, .int x4]) (st := [.int v44, .int x2, .ref v2]) C X dX10_fits_179 lnX10_112 myX12_item_ stX12_item_ ⟨by decide, by decide⟩ rfl rfl (Nat.le_of_ble_eq_true rfl) kc1 kc2 (ctX12_item_ e49 ?_)
        show pm_G g 182 [(6, .long v6), (5, .int v4.toInt32), (0, .ref x0), (1, .ref x1), (2, .int x2), (3, .int x3), (4, .int x4)] [.long v48, .int v44, .int x2, .ref v2] h (pm_sz h - pm_sz h0) (pm_us h - pm_us h0)
        obtain ⟨v50, e51, hf⟩ := pm_bd hf
        refine pm_callS (as := [.ref v2, .int x2, .int v44, .long v48]) (st := []) C X dX10_fits_182 lnX10_138 myX10_isLimited stX10_isLimited ⟨by decide, by decide⟩ rfl rfl (Nat.le_of_ble_eq_true rfl) kc1 kc2 (ctX10_isLimited e51 ?_)
        show pm_G g 185 [(6, .long v6), (5, .int v4.toInt32), (0, .ref x0), (1, .ref x1), (2, .int x2), (3, .int x3), (4, .int x4)] [.int v50] h (pm_sz h - pm_sz h0) (pm_us h - pm_us h0)
        obtain ⟨u52, hf⟩ := pm_if hf
        have hf := Option.some.inj hf
        subst hf
        exact pm_zret C X dX10_fits_185 rfl (pm_b01 u52).1 kc1 kc2 q
      have hf := pm_ie hf c37
      have nc10 := lv_neT c10 (by decide : (0 : Int32).toInt = 0)
      have nc16 := lv_neT c16 (by decide : (1 : Int32).toInt = 1)
      have nc37 := lv_neT c37 (by decide : (2 : Int32).toInt = 2)
      refine pm_tableOut (tgt := 186) C dX10_fits_50 (by omega) (by decide) ?_
      refine pm_iload C dX10_fits_186 rfl ?_
      refine pm_if_lt (tgt := 213) C dX10_fits_188 (by decide) (fun c53 => ?_) (fun c53 => ?_)
      · have hf := pm_it hf c53
        exact pa_join K0 (pm_sub [2, 3, 4, 6, 0] rfl (bX10_fits_213 C X (m0.trans (pm_S3.le K0)) hf q))
      · have hf := pm_ie hf c53
        refine pm_iload C dX10_fits_191 rfl ?_
        refine pm_sipush (v := 256) C dX10_fits_193 (by decide) ?_
        refine pm_icmp_ge (tgt := 213) C dX10_fits_196 (by decide) (fun c54 => ?_) (fun c54 => ?_)
        · have hf := pm_it hf c54
          exact pa_join K0 (pm_sub [2, 3, 4, 6, 0] rfl (bX10_fits_213 C X (m0.trans (pm_S3.le K0)) hf q))
        · have hf := pm_ie hf c54
          refine pm_aload_n C dX10_fits_199 rfl rfl ?_
          obtain ⟨k55, hf⟩ := pm_if hf
          obtain ⟨v56, e57, hf⟩ := pm_bd hf
          refine pm_getR C dX10_fits_200 flX10_33 rfl k55 e57 ?_
          refine pm_iload C dX10_fits_203 rfl ?_
          obtain ⟨k58, hf⟩ := pm_if hf
          obtain ⟨u59, hf⟩ := pm_if hf
          refine pm_zald C dX10_fits_205 k58 u59 rfl ?_
          refine pm_if_eq (tgt := 213) C dX10_fits_206 (by decide) (fun c60 => ?_) (fun c60 => ?_)
          · have hf := pm_it hf c60
            exact pa_join K0 (pm_sub [2, 3, 4, 6, 0] rfl (bX10_fits_213 C X (m0.trans (pm_S3.le K0)) hf q))
          · have hf := pm_ie hf c60
            refine pm_iconst (v := 1) C dX10_fits_209 (by decide) ?_
            refine pm_goto (tgt := 214) C dX10_fits_210 (by decide) ?_
            exact pa_join K0 (pm_sub [2, 3, 4, 6, 0] rfl (bX10_fits_214 C X (m0.trans (pm_S3.le K0)) hf q))
    · have hf := pm_ie hf c9
      refine pm_iconst (v := 0) C dX10_fits_47 (by decide) ?_
      have hf := Option.some.inj hf
      subst hf
      exact pm_zret C X dX10_fits_48 rfl (by decide) kc1 kc2 q
  · have hf := pm_it hf c8
    refine pm_iload C dX10_fits_30 rfl ?_
    refine pm_if_ne (tgt := 39) C dX10_fits_32 (by decide) (fun c61 => ?_) (fun c61 => ?_)
    · have hf := pm_ie hf c61
      refine pm_iconst (v := 0) C dX10_fits_39 (by decide) ?_
      have hf := Option.some.inj hf
      subst hf
      exact pm_zret C X dX10_fits_40 rfl (by decide) kc1 kc2 q
    · have hf := pm_it hf c61
      refine pm_iconst (v := 1) C dX10_fits_35 (by decide) ?_
      refine pm_goto (tgt := 40) C dX10_fits_36 (by decide) ?_
      have hf := Option.some.inj hf
      subst hf
      exact pm_zret C X dX10_fits_40 rfl (by decide) kc1 kc2 q
set_option maxHeartbeats 4000000 in
set_option maxRecDepth 100000 in
theorem ctX10_fits {l : Launch} {G : pm_Gl} {h : pm_H} {a0 : Nat} {p1 : Nat} {p2 : Int32} {p3 : Int32} {p4 : Int32} {r : (Int32 × pm_H)} {Qr : Option Value → pm_H → Prop} (hf : fX10_fits h a0 p1 p2 p3 p4 = some r) (q : Qr (some (.int r.1)) r.2) : pm_Ct l G mX10_fits [.ref a0, .ref p1, .int p2, .int p3, .int p4] h (pm_sz r.2 - pm_sz h) (pm_us r.2 - pm_us h) Qr := by
  refine pm_body pnX10 (Nat.le_of_ble_eq_true rfl) (fun g C X => ?_)
  have C : pm_C g cX10_fits RX10 := C
  show pm_G g 0 [(0, .ref a0), (1, .ref p1), (2, .int p2), (3, .int p3), (4, .int p4)] [] h 0 0
  unfold fX10_fits at hf
  exact pa_start (pm_sub [0, 1, 2, 3, 4] rfl (bX10_fits_0 C X (pm_Le.rf h) hf q))
