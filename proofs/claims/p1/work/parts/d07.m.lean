theorem dX10_perform_0 : decode cX10_perform 0 = .ok (.aload_n 0, 1) := by decide +kernel
theorem dX10_perform_1 : decode cX10_perform 1 = .ok (.iconst 0, 1) := by decide +kernel
theorem dX10_perform_2 : decode cX10_perform 2 = .ok (.putfield 263, 3) := by decide +kernel
theorem dX10_perform_5 : decode cX10_perform 5 = .ok (.iload_n 2, 1) := by decide +kernel
theorem dX10_perform_6 : decode cX10_perform 6 = .ok (.bipush 69, 2) := by decide +kernel
theorem dX10_perform_8 : decode cX10_perform 8 = .ok (.if_icmp .lt 38, 3) := by decide +kernel
theorem dX10_perform_11 : decode cX10_perform 11 = .ok (.iload_n 2, 1) := by decide +kernel
theorem dX10_perform_12 : decode cX10_perform 12 = .ok (.sipush 208, 3) := by decide +kernel
theorem dX10_perform_15 : decode cX10_perform 15 = .ok (.if_icmp .ge 31, 3) := by decide +kernel
theorem dX10_perform_18 : decode cX10_perform 18 = .ok (.aload_n 0, 1) := by decide +kernel
theorem dX10_perform_19 : decode cX10_perform 19 = .ok (.getfield 68, 3) := by decide +kernel
theorem dX10_perform_22 : decode cX10_perform 22 = .ok (.iload_n 2, 1) := by decide +kernel
theorem dX10_perform_23 : decode cX10_perform 23 = .ok (.lload 5, 2) := by decide +kernel
theorem dX10_perform_25 : decode cX10_perform 25 = .ok (.lload 7, 2) := by decide +kernel
theorem dX10_perform_27 : decode cX10_perform 27 = .ok (.invokevirtual 266, 3) := by decide +kernel
theorem dX10_perform_30 : decode cX10_perform 30 = .ok (.lstore 11, 2) := by decide +kernel
theorem dX10_perform_32 : decode cX10_perform 32 = .ok (.aload_n 0, 1) := by decide +kernel
theorem dX10_perform_33 : decode cX10_perform 33 = .ok (.aload_n 0, 1) := by decide +kernel
theorem dX10_perform_34 : decode cX10_perform 34 = .ok (.getfield 68, 3) := by decide +kernel
theorem dX10_perform_37 : decode cX10_perform 37 = .ok (.getfield 270, 3) := by decide +kernel
theorem dX10_perform_40 : decode cX10_perform 40 = .ok (.putfield 263, 3) := by decide +kernel
theorem dX10_perform_43 : decode cX10_perform 43 = .ok (.lload 11, 2) := by decide +kernel
theorem dX10_perform_45 : decode cX10_perform 45 = .ok (.lreturn, 1) := by decide +kernel
theorem dX10_perform_46 : decode cX10_perform 46 = .ok (.iload_n 2, 1) := by decide +kernel
theorem dX10_perform_47 : decode cX10_perform 47 = .ok (.bipush 40, 2) := by decide +kernel
theorem dX10_perform_49 : decode cX10_perform 49 = .ok (.if_icmp .lt 29, 3) := by decide +kernel
theorem dX10_perform_52 : decode cX10_perform 52 = .ok (.iload_n 2, 1) := by decide +kernel
theorem dX10_perform_53 : decode cX10_perform 53 = .ok (.bipush 64, 2) := by decide +kernel
theorem dX10_perform_55 : decode cX10_perform 55 = .ok (.if_icmp .gt 23, 3) := by decide +kernel
theorem dX10_perform_58 : decode cX10_perform 58 = .ok (.aload_n 0, 1) := by decide +kernel
theorem dX10_perform_59 : decode cX10_perform 59 = .ok (.aload_n 1, 1) := by decide +kernel
theorem dX10_perform_60 : decode cX10_perform 60 = .ok (.getfield 197, 3) := by decide +kernel
theorem dX10_perform_63 : decode cX10_perform 63 = .ok (.iconst 0, 1) := by decide +kernel
theorem dX10_perform_64 : decode cX10_perform 64 = .ok (.invokestatic 104, 3) := by decide +kernel
theorem dX10_perform_67 : decode cX10_perform 67 = .ok (.iload_n 2, 1) := by decide +kernel
theorem dX10_perform_68 : decode cX10_perform 68 = .ok (.iload 4, 2) := by decide +kernel
theorem dX10_perform_70 : decode cX10_perform 70 = .ok (.lload 5, 2) := by decide +kernel
theorem dX10_perform_72 : decode cX10_perform 72 = .ok (.lload 7, 2) := by decide +kernel
theorem dX10_perform_74 : decode cX10_perform 74 = .ok (.invokevirtual 271, 3) := by decide +kernel
theorem dX10_perform_77 : decode cX10_perform 77 = .ok (.lreturn, 1) := by decide +kernel
theorem dX10_perform_78 : decode cX10_perform 78 = .ok (.iload_n 2, 1) := by decide +kernel
theorem dX10_perform_79 : decode cX10_perform 79 = .ok (.sipush 308, 3) := by decide +kernel
theorem dX10_perform_82 : decode cX10_perform 82 = .ok (.if_icmp .lt 24, 3) := by decide +kernel
theorem dX10_perform_85 : decode cX10_perform 85 = .ok (.iload_n 2, 1) := by decide +kernel
theorem dX10_perform_86 : decode cX10_perform 86 = .ok (.sipush 311, 3) := by decide +kernel
theorem dX10_perform_89 : decode cX10_perform 89 = .ok (.if_icmp .gt 17, 3) := by decide +kernel
theorem dX10_perform_92 : decode cX10_perform 92 = .ok (.aload_n 0, 1) := by decide +kernel
theorem dX10_perform_93 : decode cX10_perform 93 = .ok (.aload_n 1, 1) := by decide +kernel
theorem dX10_perform_94 : decode cX10_perform 94 = .ok (.iload_n 2, 1) := by decide +kernel
theorem dX10_perform_95 : decode cX10_perform 95 = .ok (.iload_n 3, 1) := by decide +kernel
theorem dX10_perform_96 : decode cX10_perform 96 = .ok (.lload 5, 2) := by decide +kernel
theorem dX10_perform_98 : decode cX10_perform 98 = .ok (.lload 7, 2) := by decide +kernel
theorem dX10_perform_100 : decode cX10_perform 100 = .ok (.lload 9, 2) := by decide +kernel
theorem dX10_perform_102 : decode cX10_perform 102 = .ok (.invokevirtual 275, 3) := by decide +kernel
theorem dX10_perform_105 : decode cX10_perform 105 = .ok (.lreturn, 1) := by decide +kernel
theorem dX10_perform_106 : decode cX10_perform 106 = .ok (.iload_n 2, 1) := by decide +kernel
theorem dX10_perform_107 : decode cX10_perform 107 = .ok (.sipush 312, 3) := by decide +kernel
theorem dX10_perform_110 : decode cX10_perform 110 = .ok (.if_icmp .lt 19, 3) := by decide +kernel
theorem dX10_perform_113 : decode cX10_perform 113 = .ok (.aload_n 0, 1) := by decide +kernel
theorem dX10_perform_114 : decode cX10_perform 114 = .ok (.aload_n 1, 1) := by decide +kernel
theorem dX10_perform_115 : decode cX10_perform 115 = .ok (.iload_n 2, 1) := by decide +kernel
theorem dX10_perform_116 : decode cX10_perform 116 = .ok (.iload_n 3, 1) := by decide +kernel
theorem dX10_perform_117 : decode cX10_perform 117 = .ok (.iload 4, 2) := by decide +kernel
theorem dX10_perform_119 : decode cX10_perform 119 = .ok (.lload 5, 2) := by decide +kernel
theorem dX10_perform_121 : decode cX10_perform 121 = .ok (.lload 7, 2) := by decide +kernel
theorem dX10_perform_123 : decode cX10_perform 123 = .ok (.lload 9, 2) := by decide +kernel
theorem dX10_perform_125 : decode cX10_perform 125 = .ok (.invokevirtual 279, 3) := by decide +kernel
theorem dX10_perform_128 : decode cX10_perform 128 = .ok (.lreturn, 1) := by decide +kernel
theorem dX10_perform_129 : decode cX10_perform 129 = .ok (.iload_n 2, 1) := by decide +kernel
theorem dX10_perform_130 : decode cX10_perform 130 = .ok (.lookupswitch 182 #[(0, 82), (27, 89), (28, 89), (35, 104), (36, 120), (37, 139), (38, 139), (209, 157), (210, 172)], 82) := by decide +kernel
theorem dX10_perform_212 : decode cX10_perform 212 = .ok (.aload_n 0, 1) := by decide +kernel
theorem dX10_perform_213 : decode cX10_perform 213 = .ok (.iconst 1, 1) := by decide +kernel
theorem dX10_perform_214 : decode cX10_perform 214 = .ok (.putfield 263, 3) := by decide +kernel
theorem dX10_perform_217 : decode cX10_perform 217 = .ok (.lconst 0, 1) := by decide +kernel
theorem dX10_perform_218 : decode cX10_perform 218 = .ok (.lreturn, 1) := by decide +kernel
theorem dX10_perform_219 : decode cX10_perform 219 = .ok (.lload 9, 2) := by decide +kernel
theorem dX10_perform_221 : decode cX10_perform 221 = .ok (.lconst 0, 1) := by decide +kernel
theorem dX10_perform_222 : decode cX10_perform 222 = .ok (.lcmp, 1) := by decide +kernel
theorem dX10_perform_223 : decode cX10_perform 223 = .ok (.ifCond .eq 8, 3) := by decide +kernel
theorem dX10_perform_226 : decode cX10_perform 226 = .ok (.lload 5, 2) := by decide +kernel
theorem dX10_perform_228 : decode cX10_perform 228 = .ok (.goto 5, 3) := by decide +kernel
theorem dX10_perform_231 : decode cX10_perform 231 = .ok (.lload 7, 2) := by decide +kernel
theorem dX10_perform_233 : decode cX10_perform 233 = .ok (.lreturn, 1) := by decide +kernel
theorem dX10_perform_234 : decode cX10_perform 234 = .ok (.aload_n 0, 1) := by decide +kernel
theorem dX10_perform_235 : decode cX10_perform 235 = .ok (.getfield 29, 3) := by decide +kernel
theorem dX10_perform_238 : decode cX10_perform 238 = .ok (.aload_n 1, 1) := by decide +kernel
theorem dX10_perform_239 : decode cX10_perform 239 = .ok (.getfield 202, 3) := by decide +kernel
theorem dX10_perform_242 : decode cX10_perform 242 = .ok (.iload_n 3, 1) := by decide +kernel
theorem dX10_perform_243 : decode cX10_perform 243 = .ok (.invokestatic 104, 3) := by decide +kernel
theorem dX10_perform_246 : decode cX10_perform 246 = .ok (.invokestatic 112, 3) := by decide +kernel
theorem dX10_perform_249 : decode cX10_perform 249 = .ok (.lreturn, 1) := by decide +kernel
theorem dX10_perform_250 : decode cX10_perform 250 = .ok (.aload_n 0, 1) := by decide +kernel
theorem dX10_perform_251 : decode cX10_perform 251 = .ok (.getfield 29, 3) := by decide +kernel
theorem dX10_perform_254 : decode cX10_perform 254 = .ok (.aload_n 1, 1) := by decide +kernel
theorem dX10_perform_255 : decode cX10_perform 255 = .ok (.getfield 202, 3) := by decide +kernel
theorem dX10_perform_258 : decode cX10_perform 258 = .ok (.iload_n 3, 1) := by decide +kernel
theorem dX10_perform_259 : decode cX10_perform 259 = .ok (.invokestatic 104, 3) := by decide +kernel
theorem dX10_perform_262 : decode cX10_perform 262 = .ok (.lload 5, 2) := by decide +kernel
theorem dX10_perform_264 : decode cX10_perform 264 = .ok (.invokestatic 282, 3) := by decide +kernel
theorem dX10_perform_267 : decode cX10_perform 267 = .ok (.lconst 0, 1) := by decide +kernel
theorem dX10_perform_268 : decode cX10_perform 268 = .ok (.lreturn, 1) := by decide +kernel
theorem dX10_perform_269 : decode cX10_perform 269 = .ok (.aload_n 0, 1) := by decide +kernel
theorem dX10_perform_270 : decode cX10_perform 270 = .ok (.aload_n 1, 1) := by decide +kernel
theorem dX10_perform_271 : decode cX10_perform 271 = .ok (.getfield 191, 3) := by decide +kernel
theorem dX10_perform_274 : decode cX10_perform 274 = .ok (.iload_n 3, 1) := by decide +kernel
theorem dX10_perform_275 : decode cX10_perform 275 = .ok (.invokestatic 104, 3) := by decide +kernel
theorem dX10_perform_278 : decode cX10_perform 278 = .ok (.iload_n 2, 1) := by decide +kernel
theorem dX10_perform_279 : decode cX10_perform 279 = .ok (.lload 5, 2) := by decide +kernel
theorem dX10_perform_281 : decode cX10_perform 281 = .ok (.lload 7, 2) := by decide +kernel
theorem dX10_perform_283 : decode cX10_perform 283 = .ok (.invokevirtual 285, 3) := by decide +kernel
theorem dX10_perform_286 : decode cX10_perform 286 = .ok (.lreturn, 1) := by decide +kernel
theorem dX10_perform_287 : decode cX10_perform 287 = .ok (.lload 5, 2) := by decide +kernel
theorem dX10_perform_289 : decode cX10_perform 289 = .ok (.ldc2_w 257, 3) := by decide +kernel
theorem dX10_perform_292 : decode cX10_perform 292 = .ok (.lcmp, 1) := by decide +kernel
theorem dX10_perform_293 : decode cX10_perform 293 = .ok (.ifCond .ne 7, 3) := by decide +kernel
theorem dX10_perform_296 : decode cX10_perform 296 = .ok (.lconst 1, 1) := by decide +kernel
theorem dX10_perform_297 : decode cX10_perform 297 = .ok (.goto 4, 3) := by decide +kernel
theorem dX10_perform_300 : decode cX10_perform 300 = .ok (.lconst 0, 1) := by decide +kernel
theorem dX10_perform_301 : decode cX10_perform 301 = .ok (.lreturn, 1) := by decide +kernel
theorem dX10_perform_302 : decode cX10_perform 302 = .ok (.aload_n 1, 1) := by decide +kernel
theorem dX10_perform_303 : decode cX10_perform 303 = .ok (.getfield 188, 3) := by decide +kernel
theorem dX10_perform_306 : decode cX10_perform 306 = .ok (.iload_n 3, 1) := by decide +kernel
theorem dX10_perform_307 : decode cX10_perform 307 = .ok (.invokestatic 104, 3) := by decide +kernel
theorem dX10_perform_310 : decode cX10_perform 310 = .ok (.i2l, 1) := by decide +kernel
theorem dX10_perform_311 : decode cX10_perform 311 = .ok (.lreturn, 1) := by decide +kernel
theorem dX10_perform_312 : decode cX10_perform 312 = .ok (.lconst 0, 1) := by decide +kernel
theorem dX10_perform_313 : decode cX10_perform 313 = .ok (.lreturn, 1) := by decide +kernel
noncomputable def fX10_perform_b128 (h : pm_H) (s0 : Int64) : Option (Int64 × pm_H) := some ((s0, h))
noncomputable def fX10_perform_b106 (h : pm_H) (x0 : Nat) (x1 : Nat) (x2 : Int32) (x3 : Int32) (x4 : Int32) (x5 : Int64) (x7 : Int64) (x9 : Int64) : Option (Int64 × pm_H) := if x2 < 312 then (if x2 = 0 then (if pm_kd h x0 = 10 then some ((0, pm_setI h x0 0 1)) else none) else (if x2 = 27 then (if x9 = 0 then (some ((x7, h))) else (some ((x5, h)))) else (if x2 = 28 then (if x9 = 0 then (some ((x7, h))) else (some ((x5, h)))) else (if x2 = 35 then (if pm_kd h x0 = 10 then (pm_R h x0 7).bind fun v41 => if pm_kd h x1 = 4 then (pm_R h x1 4).bind fun v44 => (fX12_item h v44 x3).bind fun v46 => (fX12_item_ h v41 v46).bind fun v48 => some ((v48, h)) else none else none) else (if x2 = 36 then (if pm_kd h x0 = 10 then (pm_R h x0 7).bind fun v52 => if pm_kd h x1 = 4 then (pm_R h x1 4).bind fun v55 => (fX12_item h v55 x3).bind fun v57 => (fX12_setItem_ h v52 v57 x5).bind fun v59 => some ((0, v59)) else none else none) else (if x2 = 37 then (if pm_kd h x1 = 4 then (pm_R h x1 2).bind fun v64 => (fX12_item h v64 x3).bind fun v66 => if pm_kd h x0 = 10 then (fX10_atTable h x0 v66 x2 x5 x7).bind fun v69 => some ((v69.1, v69.2)) else none else none) else (if x2 = 38 then (if pm_kd h x1 = 4 then (pm_R h x1 2).bind fun v74 => (fX12_item h v74 x3).bind fun v76 => if pm_kd h x0 = 10 then (fX10_atTable h x0 v76 x2 x5 x7).bind fun v79 => some ((v79.1, v79.2)) else none else none) else (if x2 = 209 then (if x5 = (-1) then (some ((1, h))) else (some ((0, h)))) else (if x2 = 210 then (if pm_kd h x1 = 4 then (pm_R h x1 1).bind fun v86 => (fX12_item h v86 x3).bind fun v88 => some ((v88.toInt64, h)) else none) else (some ((0, h)))))))))))) else (if pm_kd h x0 = 10 then (fX10_alongTable h x0 x1 x2 x3 x4 x5 x7 x9).bind fun v91 => fX10_perform_b128 v91.2 v91.1 else none)
noncomputable def fX10_perform_b77 (h : pm_H) (s0 : Int64) : Option (Int64 × pm_H) := some ((s0, h))
noncomputable def fX10_perform_b78 (h : pm_H) (x0 : Nat) (x1 : Nat) (x2 : Int32) (x3 : Int32) (x4 : Int32) (x5 : Int64) (x7 : Int64) (x9 : Int64) : Option (Int64 × pm_H) := if x2 < 308 then (fX10_perform_b106 h x0 x1 x2 x3 x4 x5 x7 x9) else (if 311 < x2 then (fX10_perform_b106 h x0 x1 x2 x3 x4 x5 x7 x9) else (if pm_kd h x0 = 10 then (fX10_alongMemory h x0 x1 x2 x3 x5 x7 x9).bind fun v29 => some ((v29.1, v29.2)) else none))
noncomputable def fX10_perform_b46 (h : pm_H) (x0 : Nat) (x1 : Nat) (x2 : Int32) (x3 : Int32) (x4 : Int32) (x5 : Int64) (x7 : Int64) (x9 : Int64) : Option (Int64 × pm_H) := if x2 < 40 then (fX10_perform_b78 h x0 x1 x2 x3 x4 x5 x7 x9) else (if 64 < x2 then (fX10_perform_b78 h x0 x1 x2 x3 x4 x5 x7 x9) else (if pm_kd h x1 = 4 then (pm_R h x1 3).bind fun v19 => (fX12_item h v19 0).bind fun v21 => if pm_kd h x0 = 10 then (fX10_atMemory h x0 v21 x2 x4 x5 x7).bind fun v24 => fX10_perform_b77 v24.2 v24.1 else none else none))
noncomputable def fX10_perform_b0 (h : pm_H) (x0 : Nat) (x1 : Nat) (x2 : Int32) (x3 : Int32) (x4 : Int32) (x5 : Int64) (x7 : Int64) (x9 : Int64) : Option (Int64 × pm_H) := if pm_kd h x0 = 10 then if x2 < 69 then (fX10_perform_b46 (pm_setI h x0 0 0) x0 x1 x2 x3 x4 x5 x7 x9) else (if 208 ≤ x2 then (fX10_perform_b46 (pm_setI h x0 0 0) x0 x1 x2 x3 x4 x5 x7 x9) else ((pm_R (pm_setI h x0 0 0) x0 19).bind fun v4 => if pm_kd (pm_setI h x0 0 0) v4 = 8 then (fX8_apply (pm_setI h x0 0 0) v4 x2 x5 x7).bind fun v7 => if pm_kd v7.2 x0 = 10 then (pm_R v7.2 x0 19).bind fun v11 => if pm_kd v7.2 v11 = 8 then pm_let (pm_I v7.2 v11 0) fun y14 => some ((v7.1, pm_setI v7.2 x0 0 y14)) else none else none else none)) else none
noncomputable def fX10_perform (h : pm_H) (a0 : Nat) (p1 : Nat) (p2 : Int32) (p3 : Int32) (p4 : Int32) (p5 : Int64) (p6 : Int64) (p7 : Int64) : Option (Int64 × pm_H) := fX10_perform_b0 h a0 p1 p2 p3 p4 p5 p6 p7
set_option maxHeartbeats 4000000 in
set_option maxRecDepth 100000 in
theorem moX10_perform_b128 {h : pm_H} {s0 : Int64} {r : (Int64 × pm_H)} (hf : fX10_perform_b128 h s0 = some r) : pm_Le h r.2 := by
  unfold fX10_perform_b128 at hf
  have K0 := pm_S3.rf h
  have hf := Option.some.inj hf
  subst hf
  exact pm_S3.le K0
set_option maxHeartbeats 4000000 in
set_option maxRecDepth 100000 in
theorem moX10_perform_b106 {h : pm_H} {x0 : Nat} {x1 : Nat} {x2 : Int32} {x3 : Int32} {x4 : Int32} {x5 : Int64} {x7 : Int64} {x9 : Int64} {r : (Int64 × pm_H)} (hf : fX10_perform_b106 h x0 x1 x2 x3 x4 x5 x7 x9 = some r) : pm_Le h r.2 := by
  unfold fX10_perform_b106 at hf
  have K0 := pm_S3.rf h
  by_cases c32 : x2 < 312
  · have hf := pm_it hf c32
    by_cases c33 : x2 = 0
    · have hf := pm_it hf c33
      obtain ⟨k34, hf⟩ := pm_if hf
      have hf := Option.some.inj hf
      subst hf
      exact pm_S3.le (pm_S3I K0)
    have hf := pm_ie hf c33
    by_cases c35 : x2 = 27
    · have hf := pm_it hf c35
      by_cases c36 : x9 = 0
      · have hf := pm_it hf c36
        have hf := Option.some.inj hf
        subst hf
        exact pm_S3.le K0
      · have hf := pm_ie hf c36
        have hf := Option.some.inj hf
        subst hf
        exact pm_S3.le K0
    have hf := pm_ie hf c35
    by_cases c37 : x2 = 28
    · have hf := pm_it hf c37
      by_cases c38 : x9 = 0
      · have hf := pm_it hf c38
        have hf := Option.some.inj hf
        subst hf
        exact pm_S3.le K0
      · have hf := pm_ie hf c38
        have hf := Option.some.inj hf
        subst hf
        exact pm_S3.le K0
    have hf := pm_ie hf c37
    by_cases c39 : x2 = 35
    · have hf := pm_it hf c39
      obtain ⟨k40, hf⟩ := pm_if hf
      obtain ⟨v41, e42, hf⟩ := pm_bd hf
      obtain ⟨k43, hf⟩ := pm_if hf
      obtain ⟨v44, e45, hf⟩ := pm_bd hf
      obtain ⟨v46, e47, hf⟩ := pm_bd hf
      obtain ⟨v48, e49, hf⟩ := pm_bd hf
      have hf := Option.some.inj hf
      subst hf
      exact pm_S3.le K0
    have hf := pm_ie hf c39
    by_cases c50 : x2 = 36
    · have hf := pm_it hf c50
      obtain ⟨k51, hf⟩ := pm_if hf
      obtain ⟨v52, e53, hf⟩ := pm_bd hf
      obtain ⟨k54, hf⟩ := pm_if hf
      obtain ⟨v55, e56, hf⟩ := pm_bd hf
      obtain ⟨v57, e58, hf⟩ := pm_bd hf
      obtain ⟨v59, e60, hf⟩ := pm_bd hf
      have K61 := pm_S3.trans (kpX12_setItem_ e60) K0
      have hf := Option.some.inj hf
      subst hf
      exact pm_S3.le K61
    have hf := pm_ie hf c50
    by_cases c62 : x2 = 37
    · have hf := pm_it hf c62
      obtain ⟨k63, hf⟩ := pm_if hf
      obtain ⟨v64, e65, hf⟩ := pm_bd hf
      obtain ⟨v66, e67, hf⟩ := pm_bd hf
      obtain ⟨k68, hf⟩ := pm_if hf
      obtain ⟨v69, e70, hf⟩ := pm_bd hf
      have K71 := pm_S3.trans (kpX10_atTable e70) K0
      have hf := Option.some.inj hf
      subst hf
      exact pm_S3.le K71
    have hf := pm_ie hf c62
    by_cases c72 : x2 = 38
    · have hf := pm_it hf c72
      obtain ⟨k73, hf⟩ := pm_if hf
      obtain ⟨v74, e75, hf⟩ := pm_bd hf
      obtain ⟨v76, e77, hf⟩ := pm_bd hf
      obtain ⟨k78, hf⟩ := pm_if hf
      obtain ⟨v79, e80, hf⟩ := pm_bd hf
      have K81 := pm_S3.trans (kpX10_atTable e80) K0
      have hf := Option.some.inj hf
      subst hf
      exact pm_S3.le K81
    have hf := pm_ie hf c72
    by_cases c82 : x2 = 209
    · have hf := pm_it hf c82
      by_cases c83 : x5 = (-1)
      · have hf := pm_it hf c83
        have hf := Option.some.inj hf
        subst hf
        exact pm_S3.le K0
      · have hf := pm_ie hf c83
        have hf := Option.some.inj hf
        subst hf
        exact pm_S3.le K0
    have hf := pm_ie hf c82
    by_cases c84 : x2 = 210
    · have hf := pm_it hf c84
      obtain ⟨k85, hf⟩ := pm_if hf
      obtain ⟨v86, e87, hf⟩ := pm_bd hf
      obtain ⟨v88, e89, hf⟩ := pm_bd hf
      have hf := Option.some.inj hf
      subst hf
      exact pm_S3.le K0
    have hf := pm_ie hf c84
    have hf := Option.some.inj hf
    subst hf
    exact pm_S3.le K0
  · have hf := pm_ie hf c32
    obtain ⟨k90, hf⟩ := pm_if hf
    obtain ⟨v91, e92, hf⟩ := pm_bd hf
    exact ((pm_S3.le K0).trans (moX10_alongTable e92)).trans (moX10_perform_b128 hf)
set_option maxHeartbeats 4000000 in
set_option maxRecDepth 100000 in
theorem moX10_perform_b77 {h : pm_H} {s0 : Int64} {r : (Int64 × pm_H)} (hf : fX10_perform_b77 h s0 = some r) : pm_Le h r.2 := by
  unfold fX10_perform_b77 at hf
  have K0 := pm_S3.rf h
  have hf := Option.some.inj hf
  subst hf
  exact pm_S3.le K0
set_option maxHeartbeats 4000000 in
set_option maxRecDepth 100000 in
theorem moX10_perform_b78 {h : pm_H} {x0 : Nat} {x1 : Nat} {x2 : Int32} {x3 : Int32} {x4 : Int32} {x5 : Int64} {x7 : Int64} {x9 : Int64} {r : (Int64 × pm_H)} (hf : fX10_perform_b78 h x0 x1 x2 x3 x4 x5 x7 x9 = some r) : pm_Le h r.2 := by
  unfold fX10_perform_b78 at hf
  have K0 := pm_S3.rf h
  by_cases c26 : x2 < 308
  · have hf := pm_it hf c26
    exact (pm_S3.le K0).trans (moX10_perform_b106 hf)
  · have hf := pm_ie hf c26
    by_cases c27 : 311 < x2
    · have hf := pm_it hf c27
      exact (pm_S3.le K0).trans (moX10_perform_b106 hf)
    · have hf := pm_ie hf c27
      obtain ⟨k28, hf⟩ := pm_if hf
      obtain ⟨v29, e30, hf⟩ := pm_bd hf
      have K31 := pm_S3.trans (kpX10_alongMemory e30) K0
      have hf := Option.some.inj hf
      subst hf
      exact pm_S3.le K31
set_option maxHeartbeats 4000000 in
set_option maxRecDepth 100000 in
theorem moX10_perform_b46 {h : pm_H} {x0 : Nat} {x1 : Nat} {x2 : Int32} {x3 : Int32} {x4 : Int32} {x5 : Int64} {x7 : Int64} {x9 : Int64} {r : (Int64 × pm_H)} (hf : fX10_perform_b46 h x0 x1 x2 x3 x4 x5 x7 x9 = some r) : pm_Le h r.2 := by
  unfold fX10_perform_b46 at hf
  have K0 := pm_S3.rf h
  by_cases c16 : x2 < 40
  · have hf := pm_it hf c16
    exact (pm_S3.le K0).trans (moX10_perform_b78 hf)
  · have hf := pm_ie hf c16
    by_cases c17 : 64 < x2
    · have hf := pm_it hf c17
      exact (pm_S3.le K0).trans (moX10_perform_b78 hf)
    · have hf := pm_ie hf c17
      obtain ⟨k18, hf⟩ := pm_if hf
      obtain ⟨v19, e20, hf⟩ := pm_bd hf
      obtain ⟨v21, e22, hf⟩ := pm_bd hf
      obtain ⟨k23, hf⟩ := pm_if hf
      obtain ⟨v24, e25, hf⟩ := pm_bd hf
      exact ((pm_S3.le K0).trans (moX10_atMemory e25)).trans (moX10_perform_b77 hf)
set_option maxHeartbeats 4000000 in
set_option maxRecDepth 100000 in
theorem moX10_perform_b0 {h : pm_H} {x0 : Nat} {x1 : Nat} {x2 : Int32} {x3 : Int32} {x4 : Int32} {x5 : Int64} {x7 : Int64} {x9 : Int64} {r : (Int64 × pm_H)} (hf : fX10_perform_b0 h x0 x1 x2 x3 x4 x5 x7 x9 = some r) : pm_Le h r.2 := by
  unfold fX10_perform_b0 at hf
  have K0 := pm_S3.rf h
  obtain ⟨k1, hf⟩ := pm_if hf
  by_cases c2 : x2 < 69
  · have hf := pm_it hf c2
    exact (pm_S3.le (pm_S3I K0)).trans (moX10_perform_b46 hf)
  · have hf := pm_ie hf c2
    by_cases c3 : 208 ≤ x2
    · have hf := pm_it hf c3
      exact (pm_S3.le (pm_S3I K0)).trans (moX10_perform_b46 hf)
    · have hf := pm_ie hf c3
      obtain ⟨v4, e5, hf⟩ := pm_bd hf
      obtain ⟨k6, hf⟩ := pm_if hf
      obtain ⟨v7, e8, hf⟩ := pm_bd hf
      have K9 := pm_S3.trans (kpX8_apply e8) (pm_S3I K0)
      obtain ⟨k10, hf⟩ := pm_if hf
      obtain ⟨v11, e12, hf⟩ := pm_bd hf
      obtain ⟨k13, hf⟩ := pm_if hf
      obtain ⟨y14, e15, hf⟩ := pm_lt hf
      have hf := Option.some.inj hf
      subst hf
      exact pm_S3.le (pm_S3I K9)
set_option maxHeartbeats 4000000 in
set_option maxRecDepth 100000 in
theorem moX10_perform {h : pm_H} {a0 : Nat} {p1 : Nat} {p2 : Int32} {p3 : Int32} {p4 : Int32} {p5 : Int64} {p6 : Int64} {p7 : Int64} {r : (Int64 × pm_H)} (hf : fX10_perform h a0 p1 p2 p3 p4 p5 p6 p7 = some r) : pm_Le h r.2 := by
  unfold fX10_perform at hf
  have K0 := pm_S3.rf h
  exact (pm_S3.le K0).trans (moX10_perform_b0 hf)
set_option maxHeartbeats 4000000 in
set_option maxRecDepth 100000 in
theorem bX10_perform_128 {g : pm_Gm} {l : Launch} {G : pm_Gl} {Qr : Option Value → pm_H → Prop} (C : pm_C g cX10_perform RX10) {h0 h : pm_H} {s0 : Int64} {r : (Int64 × pm_H)} (X : pm_X g l G mX10_perform (pm_sz r.2 - pm_sz h0) (pm_us r.2 - pm_us h0) Qr) (m0 : pm_Le h0 h) (hf : fX10_perform_b128 h s0 = some r) (q : Qr (some (.long r.1)) r.2) : pm_G g 128 [] [.long s0] h (pm_sz h - pm_sz h0) (pm_us h - pm_us h0) := by
  have le0 := moX10_perform_b128 hf
  have kc1 := Nat.sub_le_sub_right le0.1 (pm_sz h0)
  have kc2 := Nat.sub_le_sub_right le0.2 (pm_us h0)
  have K0 := pm_S3.rf h
  unfold fX10_perform_b128 at hf
  have hf := Option.some.inj hf
  subst hf
  exact pm_lret C X dX10_perform_128 rfl kc1 kc2 q
set_option maxHeartbeats 4000000 in
set_option maxRecDepth 100000 in
theorem bX10_perform_106 {g : pm_Gm} {l : Launch} {G : pm_Gl} {Qr : Option Value → pm_H → Prop} (C : pm_C g cX10_perform RX10) {h0 h : pm_H} {x0 : Nat} {x1 : Nat} {x2 : Int32} {x3 : Int32} {x4 : Int32} {x5 : Int64} {x7 : Int64} {x9 : Int64} {r : (Int64 × pm_H)} (X : pm_X g l G mX10_perform (pm_sz r.2 - pm_sz h0) (pm_us r.2 - pm_us h0) Qr) (m0 : pm_Le h0 h) (hf : fX10_perform_b106 h x0 x1 x2 x3 x4 x5 x7 x9 = some r) (q : Qr (some (.long r.1)) r.2) : pm_G g 106 [(0, .ref x0), (1, .ref x1), (2, .int x2), (3, .int x3), (4, .int x4), (5, .long x5), (7, .long x7), (9, .long x9)] [] h (pm_sz h - pm_sz h0) (pm_us h - pm_us h0) := by
  have le0 := moX10_perform_b106 hf
  have kc1 := Nat.sub_le_sub_right le0.1 (pm_sz h0)
  have kc2 := Nat.sub_le_sub_right le0.2 (pm_us h0)
  have K0 := pm_S3.rf h
  unfold fX10_perform_b106 at hf
  refine pm_iload_n C dX10_perform_106 rfl rfl ?_
  refine pm_sipush (v := 312) C dX10_perform_107 (by decide) ?_
  refine pm_icmp_lt (tgt := 129) C dX10_perform_110 (by decide) (fun c32 => ?_) (fun c32 => ?_)
  · have hf := pm_it hf c32
    refine pm_iload_n C dX10_perform_129 rfl rfl ?_
    by_cases c33 : x2 = 0
    · have hf := pm_it hf c33
      refine pm_lookup (off := 82) (tgt := 212) C dX10_perform_130 (by decide) (by rw [c33]; first | done | decide | rfl) (by decide) ?_
      refine pm_aload_n C dX10_perform_212 rfl rfl ?_
      refine pm_iconst (v := 1) C dX10_perform_213 (by decide) ?_
      obtain ⟨k34, hf⟩ := pm_if hf
      refine pm_putI C dX10_perform_214 flX10_263 rfl rfl k34 rfl rfl ?_
      refine pm_lconst (v := 0) C dX10_perform_217 (by decide) ?_
      have hf := Option.some.inj hf
      subst hf
      exact pm_lret C X dX10_perform_218 rfl kc1 kc2 q
    have hf := pm_ie hf c33
    by_cases c35 : x2 = 27
    · have hf := pm_it hf c35
      refine pm_lookup (off := 89) (tgt := 219) C dX10_perform_130 (by decide) (by rw [c35]; first | done | decide | rfl) (by decide) ?_
      refine pm_lload C dX10_perform_219 rfl ?_
      refine pm_lconst (v := 0) C dX10_perform_221 (by decide) ?_
      refine pm_lcmp C dX10_perform_222 ?_
      refine pm_if_eq (tgt := 231) C dX10_perform_223 (by decide) (fun c36 => ?_) (fun c36 => ?_)
      · have hf := pm_it hf ((pm_lg_eq _ _).mp c36)
        refine pm_lload C dX10_perform_231 rfl ?_
        have hf := Option.some.inj hf
        subst hf
        exact pm_lret C X dX10_perform_233 rfl kc1 kc2 q
      · have hf := pm_ie hf ((fun z => c36 ((pm_lg_eq _ _).mpr z)))
        refine pm_lload C dX10_perform_226 rfl ?_
        refine pm_goto (tgt := 233) C dX10_perform_228 (by decide) ?_
        have hf := Option.some.inj hf
        subst hf
        exact pm_lret C X dX10_perform_233 rfl kc1 kc2 q
    have hf := pm_ie hf c35
    by_cases c37 : x2 = 28
    · have hf := pm_it hf c37
      refine pm_lookup (off := 89) (tgt := 219) C dX10_perform_130 (by decide) (by rw [c37]; first | done | decide | rfl) (by decide) ?_
      refine pm_lload C dX10_perform_219 rfl ?_
      refine pm_lconst (v := 0) C dX10_perform_221 (by decide) ?_
      refine pm_lcmp C dX10_perform_222 ?_
      refine pm_if_eq (tgt := 231) C dX10_perform_223 (by decide) (fun c38 => ?_) (fun c38 => ?_)
      · have hf := pm_it hf ((pm_lg_eq _ _).mp c38)
        refine pm_lload C dX10_perform_231 rfl ?_
        have hf := Option.some.inj hf
        subst hf
        exact pm_lret C X dX10_perform_233 rfl kc1 kc2 q
      · have hf := pm_ie hf ((fun z => c38 ((pm_lg_eq _ _).mpr z)))
        refine pm_lload C dX10_perform_226 rfl ?_
        refine pm_goto (tgt := 233) C dX10_perform_228 (by decide) ?_
        have hf := Option.some.inj hf
        subst hf
        exact pm_lret C X dX10_perform_233 rfl kc1 kc2 q
    have hf := pm_ie hf c37
    by_cases c39 : x2 = 35
    · have hf := pm_it hf c39
      refine pm_lookup (off := 104) (tgt := 234) C dX10_perform_130 (by decide) (by rw [c39]; first | done | decide | rfl) (by decide) ?_
      refine pm_aload_n C dX10_perform_234 rfl rfl ?_
      obtain ⟨k40, hf⟩ := pm_if hf
      obtain ⟨v41, e42, hf⟩ := pm_bd hf
      refine pm_getR C dX10_perform_235 flX10_29 rfl k40 e42 ?_
      refine pm_aload_n C dX10_perform_238 rfl rfl ?_
      obtain ⟨k43, hf⟩ := pm_if hf
      obtain ⟨v44, e45, hf⟩ := pm_bd hf
      refine pm_getR C dX10_perform_239 flX10_202 rfl k43 e45 ?_
      refine pm_iload_n C dX10_perform_242 rfl rfl ?_
      obtain ⟨v46, e47, hf⟩ := pm_bd hf
      refine pm_callS (as := [.ref v44, .int x3]) (st := [.ref v41]) C X dX10_perform_243 lnX10_104 myX12_item stX12_item ⟨by decide, by decide⟩ rfl rfl (Nat.le_of_ble_eq_true rfl) kc1 kc2 (ctX12_item e47 ?_)
      show pm_G g 246 [(0, .ref x0), (1, .ref x1), (2, .int x2), (3, .int x3), (4, .int x4), (5, .long x5), (7, .long x7), (9, .long x9)] [.int v46, .ref v41] h (pm_sz h - pm_sz h0) (pm_us h - pm_us h0)
      obtain ⟨v48, e49, hf⟩ := pm_bd hf
      refine pm_callS (as := [.ref v41, .int v46]) (st := []) C X dX10_perform_246 lnX10_112 myX12_item_ stX12_item_ ⟨by decide, by decide⟩ rfl rfl (Nat.le_of_ble_eq_true rfl) kc1 kc2 (ctX12_item_ e49 ?_)
      show pm_G g 249 [(0, .ref x0), (1, .ref x1), (2, .int x2), (3, .int x3), (4, .int x4), (5, .long x5), (7, .long x7), (9, .long x9)] [.long v48] h (pm_sz h - pm_sz h0) (pm_us h - pm_us h0)
      have hf := Option.some.inj hf
      subst hf
      exact pm_lret C X dX10_perform_249 rfl kc1 kc2 q
    have hf := pm_ie hf c39
    by_cases c50 : x2 = 36
    · have hf := pm_it hf c50
      refine pm_lookup (off := 120) (tgt := 250) C dX10_perform_130 (by decide) (by rw [c50]; first | done | decide | rfl) (by decide) ?_
      refine pm_aload_n C dX10_perform_250 rfl rfl ?_
      obtain ⟨k51, hf⟩ := pm_if hf
      obtain ⟨v52, e53, hf⟩ := pm_bd hf
      refine pm_getR C dX10_perform_251 flX10_29 rfl k51 e53 ?_
      refine pm_aload_n C dX10_perform_254 rfl rfl ?_
      obtain ⟨k54, hf⟩ := pm_if hf
      obtain ⟨v55, e56, hf⟩ := pm_bd hf
      refine pm_getR C dX10_perform_255 flX10_202 rfl k54 e56 ?_
      refine pm_iload_n C dX10_perform_258 rfl rfl ?_
      obtain ⟨v57, e58, hf⟩ := pm_bd hf
      refine pm_callS (as := [.ref v55, .int x3]) (st := [.ref v52]) C X dX10_perform_259 lnX10_104 myX12_item stX12_item ⟨by decide, by decide⟩ rfl rfl (Nat.le_of_ble_eq_true rfl) kc1 kc2 (ctX12_item e58 ?_)
      show pm_G g 262 [(0, .ref x0), (1, .ref x1), (2, .int x2), (3, .int x3), (4, .int x4), (5, .long x5), (7, .long x7), (9, .long x9)] [.int v57, .ref v52] h (pm_sz h - pm_sz h0) (pm_us h - pm_us h0)
      refine pm_lload C dX10_perform_262 rfl ?_
      obtain ⟨v59, e60, hf⟩ := pm_bd hf
      refine pm_callS (as := [.ref v52, .int v57, .long x5]) (st := []) C X dX10_perform_264 lnX10_282 myX12_setItem_ stX12_setItem_ ⟨by decide, by decide⟩ rfl rfl (Nat.le_of_ble_eq_true rfl) kc1 kc2 (ctX12_setItem_ e60 ?_)
      have K61 := pm_S3.trans (kpX12_setItem_ e60) K0
      show pm_G g 267 [(0, .ref x0), (1, .ref x1), (2, .int x2), (3, .int x3), (4, .int x4), (5, .long x5), (7, .long x7), (9, .long x9)] [] v59 (pm_sz h - pm_sz h0) (pm_us h - pm_us h0)
      refine pm_lconst (v := 0) C dX10_perform_267 (by decide) ?_
      have hf := Option.some.inj hf
      subst hf
      exact pm_lret C X dX10_perform_268 rfl kc1 kc2 q
    have hf := pm_ie hf c50
    by_cases c62 : x2 = 37
    · have hf := pm_it hf c62
      refine pm_lookup (off := 139) (tgt := 269) C dX10_perform_130 (by decide) (by rw [c62]; first | done | decide | rfl) (by decide) ?_
      refine pm_aload_n C dX10_perform_269 rfl rfl ?_
      refine pm_aload_n C dX10_perform_270 rfl rfl ?_
      obtain ⟨k63, hf⟩ := pm_if hf
      obtain ⟨v64, e65, hf⟩ := pm_bd hf
      refine pm_getR C dX10_perform_271 flX10_191 rfl k63 e65 ?_
      refine pm_iload_n C dX10_perform_274 rfl rfl ?_
      obtain ⟨v66, e67, hf⟩ := pm_bd hf
      refine pm_callS (as := [.ref v64, .int x3]) (st := [.ref x0]) C X dX10_perform_275 lnX10_104 myX12_item stX12_item ⟨by decide, by decide⟩ rfl rfl (Nat.le_of_ble_eq_true rfl) kc1 kc2 (ctX12_item e67 ?_)
      show pm_G g 278 [(0, .ref x0), (1, .ref x1), (2, .int x2), (3, .int x3), (4, .int x4), (5, .long x5), (7, .long x7), (9, .long x9)] [.int v66, .ref x0] h (pm_sz h - pm_sz h0) (pm_us h - pm_us h0)
      refine pm_iload_n C dX10_perform_278 rfl rfl ?_
      refine pm_lload C dX10_perform_279 rfl ?_
      refine pm_lload C dX10_perform_281 rfl ?_
      obtain ⟨k68, hf⟩ := pm_if hf
      obtain ⟨v69, e70, hf⟩ := pm_bd hf
      refine pm_callV (as := [.int v66, .int x2, .long x5, .long x7]) (st := []) C X dX10_perform_283 lnX10_285 myX10_atTable viX10_atTable ⟨by decide, by decide⟩ rfl rfl k68 (Nat.le_of_ble_eq_true rfl) kc1 kc2 (ctX10_atTable e70 ?_)
      have K71 := pm_S3.trans (kpX10_atTable e70) K0
      show pm_G g 286 [(0, .ref x0), (1, .ref x1), (2, .int x2), (3, .int x3), (4, .int x4), (5, .long x5), (7, .long x7), (9, .long x9)] [.long v69.1] v69.2 (pm_sz h - pm_sz h0) (pm_us h - pm_us h0)
      have hf := Option.some.inj hf
      subst hf
      exact pm_lret C X dX10_perform_286 rfl kc1 kc2 q
    have hf := pm_ie hf c62
    by_cases c72 : x2 = 38
    · have hf := pm_it hf c72
      refine pm_lookup (off := 139) (tgt := 269) C dX10_perform_130 (by decide) (by rw [c72]; first | done | decide | rfl) (by decide) ?_
      refine pm_aload_n C dX10_perform_269 rfl rfl ?_
      refine pm_aload_n C dX10_perform_270 rfl rfl ?_
      obtain ⟨k73, hf⟩ := pm_if hf
      obtain ⟨v74, e75, hf⟩ := pm_bd hf
      refine pm_getR C dX10_perform_271 flX10_191 rfl k73 e75 ?_
      refine pm_iload_n C dX10_perform_274 rfl rfl ?_
      obtain ⟨v76, e77, hf⟩ := pm_bd hf
      refine pm_callS (as := [.ref v74, .int x3]) (st := [.ref x0]) C X dX10_perform_275 lnX10_104 myX12_item stX12_item ⟨by decide, by decide⟩ rfl rfl (Nat.le_of_ble_eq_true rfl) kc1 kc2 (ctX12_item e77 ?_)
      show pm_G g 278 [(0, .ref x0), (1, .ref x1), (2, .int x2), (3, .int x3), (4, .int x4), (5, .long x5), (7, .long x7), (9, .long x9)] [.int v76, .ref x0] h (pm_sz h - pm_sz h0) (pm_us h - pm_us h0)
      refine pm_iload_n C dX10_perform_278 rfl rfl ?_
      refine pm_lload C dX10_perform_279 rfl ?_
      refine pm_lload C dX10_perform_281 rfl ?_
      obtain ⟨k78, hf⟩ := pm_if hf
      obtain ⟨v79, e80, hf⟩ := pm_bd hf
      refine pm_callV (as := [.int v76, .int x2, .long x5, .long x7]) (st := []) C X dX10_perform_283 lnX10_285 myX10_atTable viX10_atTable ⟨by decide, by decide⟩ rfl rfl k78 (Nat.le_of_ble_eq_true rfl) kc1 kc2 (ctX10_atTable e80 ?_)
      have K81 := pm_S3.trans (kpX10_atTable e80) K0
      show pm_G g 286 [(0, .ref x0), (1, .ref x1), (2, .int x2), (3, .int x3), (4, .int x4), (5, .long x5), (7, .long x7), (9, .long x9)] [.long v79.1] v79.2 (pm_sz h - pm_sz h0) (pm_us h - pm_us h0)
      have hf := Option.some.inj hf
      subst hf
      exact pm_lret C X dX10_perform_286 rfl kc1 kc2 q
    have hf := pm_ie hf c72
    by_cases c82 : x2 = 209
    · have hf := pm_it hf c82
      refine pm_lookup (off := 157) (tgt := 287) C dX10_perform_130 (by decide) (by rw [c82]; first | done | decide | rfl) (by decide) ?_
      refine pm_lload C dX10_perform_287 rfl ?_
      refine pm_ldc2 C dX10_perform_289 cnX10_257 ?_
      refine pm_lcmp C dX10_perform_292 ?_
      refine pm_if_ne (tgt := 300) C dX10_perform_293 (by decide) (fun c83 => ?_) (fun c83 => ?_)
      · have hf := pm_ie hf ((fun z => c83 ((pm_lg_eq _ _).mpr z)))
        refine pm_lconst (v := 0) C dX10_perform_300 (by decide) ?_
        have hf := Option.some.inj hf
        subst hf
        exact pm_lret C X dX10_perform_301 rfl kc1 kc2 q
      · have hf := pm_it hf ((pm_lg_eq _ _).mp c83)
        refine pm_lconst (v := 1) C dX10_perform_296 (by decide) ?_
        refine pm_goto (tgt := 301) C dX10_perform_297 (by decide) ?_
        have hf := Option.some.inj hf
        subst hf
        exact pm_lret C X dX10_perform_301 rfl kc1 kc2 q
    have hf := pm_ie hf c82
    by_cases c84 : x2 = 210
    · have hf := pm_it hf c84
      refine pm_lookup (off := 172) (tgt := 302) C dX10_perform_130 (by decide) (by rw [c84]; first | done | decide | rfl) (by decide) ?_
      refine pm_aload_n C dX10_perform_302 rfl rfl ?_
      obtain ⟨k85, hf⟩ := pm_if hf
      obtain ⟨v86, e87, hf⟩ := pm_bd hf
      refine pm_getR C dX10_perform_303 flX10_188 rfl k85 e87 ?_
      refine pm_iload_n C dX10_perform_306 rfl rfl ?_
      obtain ⟨v88, e89, hf⟩ := pm_bd hf
      refine pm_callS (as := [.ref v86, .int x3]) (st := []) C X dX10_perform_307 lnX10_104 myX12_item stX12_item ⟨by decide, by decide⟩ rfl rfl (Nat.le_of_ble_eq_true rfl) kc1 kc2 (ctX12_item e89 ?_)
      show pm_G g 310 [(0, .ref x0), (1, .ref x1), (2, .int x2), (3, .int x3), (4, .int x4), (5, .long x5), (7, .long x7), (9, .long x9)] [.int v88] h (pm_sz h - pm_sz h0) (pm_us h - pm_us h0)
      refine pm_i2l C dX10_perform_310 ?_
      have hf := Option.some.inj hf
      subst hf
      exact pm_lret C X dX10_perform_311 rfl kc1 kc2 q
    have hf := pm_ie hf c84
    refine pm_lookup (off := 182) (tgt := 312) C dX10_perform_130 (by decide) ((lv_osw c33 (by decide)).trans ((lv_osw c35 (by decide)).trans ((lv_osw c37 (by decide)).trans ((lv_osw c39 (by decide)).trans ((lv_osw c50 (by decide)).trans ((lv_osw c62 (by decide)).trans ((lv_osw c72 (by decide)).trans ((lv_osw c82 (by decide)).trans ((lv_osw c84 (by decide)).trans (rfl)))))))))) (by decide) ?_
    refine pm_lconst (v := 0) C dX10_perform_312 (by decide) ?_
    have hf := Option.some.inj hf
    subst hf
    exact pm_lret C X dX10_perform_313 rfl kc1 kc2 q
  · have hf := pm_ie hf c32
    refine pm_aload_n C dX10_perform_113 rfl rfl ?_
    refine pm_aload_n C dX10_perform_114 rfl rfl ?_
    refine pm_iload_n C dX10_perform_115 rfl rfl ?_
    refine pm_iload_n C dX10_perform_116 rfl rfl ?_
    refine pm_iload C dX10_perform_117 rfl ?_
    refine pm_lload C dX10_perform_119 rfl ?_
    refine pm_lload C dX10_perform_121 rfl ?_
    refine pm_lload C dX10_perform_123 rfl ?_
    obtain ⟨k90, hf⟩ := pm_if hf
    obtain ⟨v91, e92, hf⟩ := pm_bd hf
    refine pm_callV (as := [.ref x1, .int x2, .int x3, .int x4, .long x5, .long x7, .long x9]) (st := []) C X dX10_perform_125 lnX10_279 myX10_alongTable viX10_alongTable ⟨by decide, by decide⟩ rfl rfl k90 (Nat.le_of_ble_eq_true rfl) (pa_le1 K0 m0 (moX10_alongTable e92) (moX10_perform_b128 hf)) (pa_le2 K0 m0 (moX10_alongTable e92) (moX10_perform_b128 hf)) (ctX10_alongTable e92 ?_)
    show pm_G g 128 [(0, .ref x0), (1, .ref x1), (2, .int x2), (3, .int x3), (4, .int x4), (5, .long x5), (7, .long x7), (9, .long x9)] [.long v91.1] v91.2 (pm_sz h - pm_sz h0 + (pm_sz v91.2 - pm_sz h)) (pm_us h - pm_us h0 + (pm_us v91.2 - pm_us h))
    refine pa_fin K0 m0 (moX10_alongTable e92) ?_
    exact pm_sub [] rfl (bX10_perform_128 C X ((m0.trans (pm_S3.le K0)).trans (moX10_alongTable e92)) hf q)
set_option maxHeartbeats 4000000 in
set_option maxRecDepth 100000 in
theorem bX10_perform_77 {g : pm_Gm} {l : Launch} {G : pm_Gl} {Qr : Option Value → pm_H → Prop} (C : pm_C g cX10_perform RX10) {h0 h : pm_H} {s0 : Int64} {r : (Int64 × pm_H)} (X : pm_X g l G mX10_perform (pm_sz r.2 - pm_sz h0) (pm_us r.2 - pm_us h0) Qr) (m0 : pm_Le h0 h) (hf : fX10_perform_b77 h s0 = some r) (q : Qr (some (.long r.1)) r.2) : pm_G g 77 [] [.long s0] h (pm_sz h - pm_sz h0) (pm_us h - pm_us h0) := by
  have le0 := moX10_perform_b77 hf
  have kc1 := Nat.sub_le_sub_right le0.1 (pm_sz h0)
  have kc2 := Nat.sub_le_sub_right le0.2 (pm_us h0)
  have K0 := pm_S3.rf h
  unfold fX10_perform_b77 at hf
  have hf := Option.some.inj hf
  subst hf
  exact pm_lret C X dX10_perform_77 rfl kc1 kc2 q
set_option maxHeartbeats 4000000 in
set_option maxRecDepth 100000 in
theorem bX10_perform_78 {g : pm_Gm} {l : Launch} {G : pm_Gl} {Qr : Option Value → pm_H → Prop} (C : pm_C g cX10_perform RX10) {h0 h : pm_H} {x0 : Nat} {x1 : Nat} {x2 : Int32} {x3 : Int32} {x4 : Int32} {x5 : Int64} {x7 : Int64} {x9 : Int64} {r : (Int64 × pm_H)} (X : pm_X g l G mX10_perform (pm_sz r.2 - pm_sz h0) (pm_us r.2 - pm_us h0) Qr) (m0 : pm_Le h0 h) (hf : fX10_perform_b78 h x0 x1 x2 x3 x4 x5 x7 x9 = some r) (q : Qr (some (.long r.1)) r.2) : pm_G g 78 [(0, .ref x0), (1, .ref x1), (2, .int x2), (3, .int x3), (4, .int x4), (5, .long x5), (7, .long x7), (9, .long x9)] [] h (pm_sz h - pm_sz h0) (pm_us h - pm_us h0) := by
  have le0 := moX10_perform_b78 hf
  have kc1 := Nat.sub_le_sub_right le0.1 (pm_sz h0)
  have kc2 := Nat.sub_le_sub_right le0.2 (pm_us h0)
  have K0 := pm_S3.rf h
  unfold fX10_perform_b78 at hf
  refine pm_iload_n C dX10_perform_78 rfl rfl ?_
  refine pm_sipush (v := 308) C dX10_perform_79 (by decide) ?_
  refine pm_icmp_lt (tgt := 106) C dX10_perform_82 (by decide) (fun c26 => ?_) (fun c26 => ?_)
  · have hf := pm_it hf c26
    exact pa_join K0 (pm_sub [0, 1, 2, 3, 4, 5, 6, 7] rfl (bX10_perform_106 C X (m0.trans (pm_S3.le K0)) hf q))
  · have hf := pm_ie hf c26
    refine pm_iload_n C dX10_perform_85 rfl rfl ?_
    refine pm_sipush (v := 311) C dX10_perform_86 (by decide) ?_
    refine pm_icmp_gt (tgt := 106) C dX10_perform_89 (by decide) (fun c27 => ?_) (fun c27 => ?_)
    · have hf := pm_it hf c27
      exact pa_join K0 (pm_sub [0, 1, 2, 3, 4, 5, 6, 7] rfl (bX10_perform_106 C X (m0.trans (pm_S3.le K0)) hf q))
    · have hf := pm_ie hf c27
      refine pm_aload_n C dX10_perform_92 rfl rfl ?_
      refine pm_aload_n C dX10_perform_93 rfl rfl ?_
      refine pm_iload_n C dX10_perform_94 rfl rfl ?_
      refine pm_iload_n C dX10_perform_95 rfl rfl ?_
      refine pm_lload C dX10_perform_96 rfl ?_
      refine pm_lload C dX10_perform_98 rfl ?_
      refine pm_lload C dX10_perform_100 rfl ?_
      obtain ⟨k28, hf⟩ := pm_if hf
      obtain ⟨v29, e30, hf⟩ := pm_bd hf
      refine pm_callV (as := [.ref x1, .int x2, .int x3, .long x5, .long x7, .long x9]) (st := []) C X dX10_perform_102 lnX10_275 myX10_alongMemory viX10_alongMemory ⟨by decide, by decide⟩ rfl rfl k28 (Nat.le_of_ble_eq_true rfl) kc1 kc2 (ctX10_alongMemory e30 ?_)
      have K31 := pm_S3.trans (kpX10_alongMemory e30) K0
      show pm_G g 105 [(0, .ref x0), (1, .ref x1), (2, .int x2), (3, .int x3), (4, .int x4), (5, .long x5), (7, .long x7), (9, .long x9)] [.long v29.1] v29.2 (pm_sz h - pm_sz h0) (pm_us h - pm_us h0)
      have hf := Option.some.inj hf
      subst hf
      exact pm_lret C X dX10_perform_105 rfl kc1 kc2 q
set_option maxHeartbeats 4000000 in
set_option maxRecDepth 100000 in
theorem bX10_perform_46 {g : pm_Gm} {l : Launch} {G : pm_Gl} {Qr : Option Value → pm_H → Prop} (C : pm_C g cX10_perform RX10) {h0 h : pm_H} {x0 : Nat} {x1 : Nat} {x2 : Int32} {x3 : Int32} {x4 : Int32} {x5 : Int64} {x7 : Int64} {x9 : Int64} {r : (Int64 × pm_H)} (X : pm_X g l G mX10_perform (pm_sz r.2 - pm_sz h0) (pm_us r.2 - pm_us h0) Qr) (m0 : pm_Le h0 h) (hf : fX10_perform_b46 h x0 x1 x2 x3 x4 x5 x7 x9 = some r) (q : Qr (some (.long r.1)) r.2) : pm_G g 46 [(0, .ref x0), (1, .ref x1), (2, .int x2), (3, .int x3), (4, .int x4), (5, .long x5), (7, .long x7), (9, .long x9)] [] h (pm_sz h - pm_sz h0) (pm_us h - pm_us h0) := by
  have le0 := moX10_perform_b46 hf
  have kc1 := Nat.sub_le_sub_right le0.1 (pm_sz h0)
  have kc2 := Nat.sub_le_sub_right le0.2 (pm_us h0)
  have K0 := pm_S3.rf h
  unfold fX10_perform_b46 at hf
  refine pm_iload_n C dX10_perform_46 rfl rfl ?_
  refine pm_bipush (v := 40) C dX10_perform_47 (by decide) ?_
  refine pm_icmp_lt (tgt := 78) C dX10_perform_49 (by decide) (fun c16 => ?_) (fun c16 => ?_)
  · have hf := pm_it hf c16
    exact pa_join K0 (pm_sub [0, 1, 2, 3, 4, 5, 6, 7] rfl (bX10_perform_78 C X (m0.trans (pm_S3.le K0)) hf q))
  · have hf := pm_ie hf c16
    refine pm_iload_n C dX10_perform_52 rfl rfl ?_
    refine pm_bipush (v := 64) C dX10_perform_53 (by decide) ?_
    refine pm_icmp_gt (tgt := 78) C dX10_perform_55 (by decide) (fun c17 => ?_) (fun c17 => ?_)
    · have hf := pm_it hf c17
      exact pa_join K0 (pm_sub [0, 1, 2, 3, 4, 5, 6, 7] rfl (bX10_perform_78 C X (m0.trans (pm_S3.le K0)) hf q))
    · have hf := pm_ie hf c17
      refine pm_aload_n C dX10_perform_58 rfl rfl ?_
      refine pm_aload_n C dX10_perform_59 rfl rfl ?_
      obtain ⟨k18, hf⟩ := pm_if hf
      obtain ⟨v19, e20, hf⟩ := pm_bd hf
      refine pm_getR C dX10_perform_60 flX10_197 rfl k18 e20 ?_
      refine pm_iconst (v := 0) C dX10_perform_63 (by decide) ?_
      obtain ⟨v21, e22, hf⟩ := pm_bd hf
      refine pm_callS (as := [.ref v19, .int 0]) (st := [.ref x0]) C X dX10_perform_64 lnX10_104 myX12_item stX12_item ⟨by decide, by decide⟩ rfl rfl (Nat.le_of_ble_eq_true rfl) kc1 kc2 (ctX12_item e22 ?_)
      show pm_G g 67 [(0, .ref x0), (1, .ref x1), (2, .int x2), (3, .int x3), (4, .int x4), (5, .long x5), (7, .long x7), (9, .long x9)] [.int v21, .ref x0] h (pm_sz h - pm_sz h0) (pm_us h - pm_us h0)
      refine pm_iload_n C dX10_perform_67 rfl rfl ?_
      refine pm_iload C dX10_perform_68 rfl ?_
      refine pm_lload C dX10_perform_70 rfl ?_
      refine pm_lload C dX10_perform_72 rfl ?_
      obtain ⟨k23, hf⟩ := pm_if hf
      obtain ⟨v24, e25, hf⟩ := pm_bd hf
      refine pm_callV (as := [.int v21, .int x2, .int x4, .long x5, .long x7]) (st := []) C X dX10_perform_74 lnX10_271 myX10_atMemory viX10_atMemory ⟨by decide, by decide⟩ rfl rfl k23 (Nat.le_of_ble_eq_true rfl) (pa_le1 K0 m0 (moX10_atMemory e25) (moX10_perform_b77 hf)) (pa_le2 K0 m0 (moX10_atMemory e25) (moX10_perform_b77 hf)) (ctX10_atMemory e25 ?_)
      show pm_G g 77 [(0, .ref x0), (1, .ref x1), (2, .int x2), (3, .int x3), (4, .int x4), (5, .long x5), (7, .long x7), (9, .long x9)] [.long v24.1] v24.2 (pm_sz h - pm_sz h0 + (pm_sz v24.2 - pm_sz h)) (pm_us h - pm_us h0 + (pm_us v24.2 - pm_us h))
      refine pa_fin K0 m0 (moX10_atMemory e25) ?_
      exact pm_sub [] rfl (bX10_perform_77 C X ((m0.trans (pm_S3.le K0)).trans (moX10_atMemory e25)) hf q)
set_option maxHeartbeats 4000000 in
set_option maxRecDepth 100000 in
theorem bX10_perform_0 {g : pm_Gm} {l : Launch} {G : pm_Gl} {Qr : Option Value → pm_H → Prop} (C : pm_C g cX10_perform RX10) {h0 h : pm_H} {x0 : Nat} {x1 : Nat} {x2 : Int32} {x3 : Int32} {x4 : Int32} {x5 : Int64} {x7 : Int64} {x9 : Int64} {r : (Int64 × pm_H)} (X : pm_X g l G mX10_perform (pm_sz r.2 - pm_sz h0) (pm_us r.2 - pm_us h0) Qr) (m0 : pm_Le h0 h) (hf : fX10_perform_b0 h x0 x1 x2 x3 x4 x5 x7 x9 = some r) (q : Qr (some (.long r.1)) r.2) : pm_G g 0 [(0, .ref x0), (1, .ref x1), (2, .int x2), (3, .int x3), (4, .int x4), (5, .long x5), (7, .long x7), (9, .long x9)] [] h (pm_sz h - pm_sz h0) (pm_us h - pm_us h0) := by
  have le0 := moX10_perform_b0 hf
  have kc1 := Nat.sub_le_sub_right le0.1 (pm_sz h0)
  have kc2 := Nat.sub_le_sub_right le0.2 (pm_us h0)
  have K0 := pm_S3.rf h
  unfold fX10_perform_b0 at hf
  refine pm_aload_n C dX10_perform_0 rfl rfl ?_
  refine pm_iconst (v := 0) C dX10_perform_1 (by decide) ?_
  obtain ⟨k1, hf⟩ := pm_if hf
  refine pm_putI C dX10_perform_2 flX10_263 rfl rfl k1 rfl rfl ?_
  refine pm_iload_n C dX10_perform_5 rfl rfl ?_
  refine pm_bipush (v := 69) C dX10_perform_6 (by decide) ?_
  refine pm_icmp_lt (tgt := 46) C dX10_perform_8 (by decide) (fun c2 => ?_) (fun c2 => ?_)
  · have hf := pm_it hf c2
    exact pa_join (pm_S3I K0) (pm_sub [0, 1, 2, 3, 4, 5, 6, 7] rfl (bX10_perform_46 C X (m0.trans (pm_S3.le (pm_S3I K0))) hf q))
  · have hf := pm_ie hf c2
    refine pm_iload_n C dX10_perform_11 rfl rfl ?_
    refine pm_sipush (v := 208) C dX10_perform_12 (by decide) ?_
    refine pm_icmp_ge (tgt := 46) C dX10_perform_15 (by decide) (fun c3 => ?_) (fun c3 => ?_)
    · have hf := pm_it hf c3
      exact pa_join (pm_S3I K0) (pm_sub [0, 1, 2, 3, 4, 5, 6, 7] rfl (bX10_perform_46 C X (m0.trans (pm_S3.le (pm_S3I K0))) hf q))
    · have hf := pm_ie hf c3
      refine pm_aload_n C dX10_perform_18 rfl rfl ?_
      obtain ⟨v4, e5, hf⟩ := pm_bd hf
      refine pm_getR C dX10_perform_19 flX10_68 rfl k1 e5 ?_
      refine pm_iload_n C dX10_perform_22 rfl rfl ?_
      refine pm_lload C dX10_perform_23 rfl ?_
      refine pm_lload C dX10_perform_25 rfl ?_
      obtain ⟨k6, hf⟩ := pm_if hf
      obtain ⟨v7, e8, hf⟩ := pm_bd hf
      refine pm_callV (as := [.int x2, .long x5, .long x7]) (st := []) C X dX10_perform_27 lnX10_266 myX8_apply viX8_apply ⟨by decide, by decide⟩ rfl rfl k6 (Nat.le_of_ble_eq_true rfl) kc1 kc2 (ctX8_apply e8 ?_)
      have K9 := pm_S3.trans (kpX8_apply e8) (pm_S3I K0)
      show pm_G g 30 [(0, .ref x0), (1, .ref x1), (2, .int x2), (3, .int x3), (4, .int x4), (5, .long x5), (7, .long x7), (9, .long x9)] [.long v7.1] v7.2 (pm_sz h - pm_sz h0) (pm_us h - pm_us h0)
      refine pm_lstore (lv' := [(11, .long v7.1), (0, .ref x0), (1, .ref x1), (2, .int x2), (3, .int x3), (4, .int x4), (5, .long x5), (7, .long x7), (9, .long x9)]) C dX10_perform_30 (pm_nl X (by decide)) rfl ?_
      refine pm_aload_n C dX10_perform_32 rfl rfl ?_
      refine pm_aload_n C dX10_perform_33 rfl rfl ?_
      obtain ⟨k10, hf⟩ := pm_if hf
      obtain ⟨v11, e12, hf⟩ := pm_bd hf
      refine pm_getR C dX10_perform_34 flX10_68 rfl k10 e12 ?_
      obtain ⟨k13, hf⟩ := pm_if hf
      refine pm_getI C dX10_perform_37 flX10_270 rfl k13 rfl ?_
      obtain ⟨y14, e15, hf⟩ := pm_lt hf
      refine pm_topI e15 ?_
      refine pm_putI C dX10_perform_40 flX10_263 rfl rfl k10 rfl rfl ?_
      refine pm_lload C dX10_perform_43 rfl ?_
      have hf := Option.some.inj hf
      subst hf
      exact pm_lret C X dX10_perform_45 rfl kc1 kc2 q
set_option maxHeartbeats 4000000 in
set_option maxRecDepth 100000 in
theorem ctX10_perform {l : Launch} {G : pm_Gl} {h : pm_H} {a0 : Nat} {p1 : Nat} {p2 : Int32} {p3 : Int32} {p4 : Int32} {p5 : Int64} {p6 : Int64} {p7 : Int64} {r : (Int64 × pm_H)} {Qr : Option Value → pm_H → Prop} (hf : fX10_perform h a0 p1 p2 p3 p4 p5 p6 p7 = some r) (q : Qr (some (.long r.1)) r.2) : pm_Ct l G mX10_perform [.ref a0, .ref p1, .int p2, .int p3, .int p4, .long p5, .long p6, .long p7] h (pm_sz r.2 - pm_sz h) (pm_us r.2 - pm_us h) Qr := by
  refine pm_body pnX10 (Nat.le_of_ble_eq_true rfl) (fun g C X => ?_)
  have C : pm_C g cX10_perform RX10 := C
  show pm_G g 0 [(0, .ref a0), (1, .ref p1), (2, .int p2), (3, .int p3), (4, .int p4), (5, .long p5), (7, .long p6), (9, .long p7)] [] h 0 0
  unfold fX10_perform at hf
  exact pa_start (pm_sub [0, 1, 2, 3, 4, 5, 6, 7] rfl (bX10_perform_0 C X (pm_Le.rf h) hf q))
