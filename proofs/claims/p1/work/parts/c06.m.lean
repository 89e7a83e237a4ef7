theorem dX9_openSection_0 : decode cX9_openSection 0 = .ok (.aload_n 0, 1) := by decide +kernel
theorem dX9_openSection_1 : decode cX9_openSection 1 = .ok (.getfield 51, 3) := by decide +kernel
theorem dX9_openSection_4 : decode cX9_openSection 4 = .ok (.istore_n 1, 1) := by decide +kernel
theorem dX9_openSection_5 : decode cX9_openSection 5 = .ok (.aload_n 0, 1) := by decide +kernel
theorem dX9_openSection_6 : decode cX9_openSection 6 = .ok (.invokevirtual 43, 3) := by decide +kernel
theorem dX9_openSection_9 : decode cX9_openSection 9 = .ok (.istore_n 2, 1) := by decide +kernel
theorem dX9_openSection_10 : decode cX9_openSection 10 = .ok (.iload_n 2, 1) := by decide +kernel
theorem dX9_openSection_11 : decode cX9_openSection 11 = .ok (.bipush 12, 2) := by decide +kernel
theorem dX9_openSection_13 : decode cX9_openSection 13 = .ok (.if_icmp .gt 18, 3) := by decide +kernel
theorem dX9_openSection_16 : decode cX9_openSection 16 = .ok (.iload_n 2, 1) := by decide +kernel
theorem dX9_openSection_17 : decode cX9_openSection 17 = .ok (.ifCond .le 21, 3) := by decide +kernel
theorem dX9_openSection_20 : decode cX9_openSection 20 = .ok (.iload_n 2, 1) := by decide +kernel
theorem dX9_openSection_21 : decode cX9_openSection 21 = .ok (.invokestatic 142, 3) := by decide +kernel
theorem dX9_openSection_24 : decode cX9_openSection 24 = .ok (.aload_n 0, 1) := by decide +kernel
theorem dX9_openSection_25 : decode cX9_openSection 25 = .ok (.getfield 31, 3) := by decide +kernel
theorem dX9_openSection_28 : decode cX9_openSection 28 = .ok (.if_icmp .gt 10, 3) := by decide +kernel
theorem dX9_openSection_31 : decode cX9_openSection 31 = .ok (.aload_n 0, 1) := by decide +kernel
theorem dX9_openSection_32 : decode cX9_openSection 32 = .ok (.bipush 6, 2) := by decide +kernel
theorem dX9_openSection_34 : decode cX9_openSection 34 = .ok (.iload_n 1, 1) := by decide +kernel
theorem dX9_openSection_35 : decode cX9_openSection 35 = .ok (.invokevirtual 47, 3) := by decide +kernel
theorem dX9_openSection_38 : decode cX9_openSection 38 = .ok (.aload_n 0, 1) := by decide +kernel
theorem dX9_openSection_39 : decode cX9_openSection 39 = .ok (.getfield 51, 3) := by decide +kernel
theorem dX9_openSection_42 : decode cX9_openSection 42 = .ok (.istore_n 3, 1) := by decide +kernel
theorem dX9_openSection_43 : decode cX9_openSection 43 = .ok (.aload_n 0, 1) := by decide +kernel
theorem dX9_openSection_44 : decode cX9_openSection 44 = .ok (.bipush 32, 2) := by decide +kernel
theorem dX9_openSection_46 : decode cX9_openSection 46 = .ok (.invokevirtual 145, 3) := by decide +kernel
theorem dX9_openSection_49 : decode cX9_openSection 49 = .ok (.lstore 4, 2) := by decide +kernel
theorem dX9_openSection_51 : decode cX9_openSection 51 = .ok (.lload 4, 2) := by decide +kernel
theorem dX9_openSection_53 : decode cX9_openSection 53 = .ok (.aload_n 0, 1) := by decide +kernel
theorem dX9_openSection_54 : decode cX9_openSection 54 = .ok (.getfield 60, 3) := by decide +kernel
theorem dX9_openSection_57 : decode cX9_openSection 57 = .ok (.aload_n 0, 1) := by decide +kernel
theorem dX9_openSection_58 : decode cX9_openSection 58 = .ok (.getfield 51, 3) := by decide +kernel
theorem dX9_openSection_61 : decode cX9_openSection 61 = .ok (.isub, 1) := by decide +kernel
theorem dX9_openSection_62 : decode cX9_openSection 62 = .ok (.i2l, 1) := by decide +kernel
theorem dX9_openSection_63 : decode cX9_openSection 63 = .ok (.lcmp, 1) := by decide +kernel
theorem dX9_openSection_64 : decode cX9_openSection 64 = .ok (.ifCond .le 9, 3) := by decide +kernel
theorem dX9_openSection_67 : decode cX9_openSection 67 = .ok (.aload_n 0, 1) := by decide +kernel
theorem dX9_openSection_68 : decode cX9_openSection 68 = .ok (.iconst 2, 1) := by decide +kernel
theorem dX9_openSection_69 : decode cX9_openSection 69 = .ok (.iload_n 3, 1) := by decide +kernel
theorem dX9_openSection_70 : decode cX9_openSection 70 = .ok (.invokevirtual 47, 3) := by decide +kernel
theorem dX9_openSection_73 : decode cX9_openSection 73 = .ok (.aload_n 0, 1) := by decide +kernel
theorem dX9_openSection_74 : decode cX9_openSection 74 = .ok (.getfield 40, 3) := by decide +kernel
theorem dX9_openSection_77 : decode cX9_openSection 77 = .ok (.ifCond .eq 4, 3) := by decide +kernel
theorem dX9_openSection_80 : decode cX9_openSection 80 = .ok (.return_, 1) := by decide +kernel
theorem dX9_openSection_81 : decode cX9_openSection 81 = .ok (.iload_n 2, 1) := by decide +kernel
theorem dX9_openSection_82 : decode cX9_openSection 82 = .ok (.ifCond .le 11, 3) := by decide +kernel
theorem dX9_openSection_85 : decode cX9_openSection 85 = .ok (.aload_n 0, 1) := by decide +kernel
theorem dX9_openSection_86 : decode cX9_openSection 86 = .ok (.iload_n 2, 1) := by decide +kernel
theorem dX9_openSection_87 : decode cX9_openSection 87 = .ok (.invokestatic 142, 3) := by decide +kernel
theorem dX9_openSection_90 : decode cX9_openSection 90 = .ok (.putfield 31, 3) := by decide +kernel
theorem dX9_openSection_93 : decode cX9_openSection 93 = .ok (.aload_n 0, 1) := by decide +kernel
theorem dX9_openSection_94 : decode cX9_openSection 94 = .ok (.aload_n 0, 1) := by decide +kernel
theorem dX9_openSection_95 : decode cX9_openSection 95 = .ok (.getfield 51, 3) := by decide +kernel
theorem dX9_openSection_98 : decode cX9_openSection 98 = .ok (.lload 4, 2) := by decide +kernel
theorem dX9_openSection_100 : decode cX9_openSection 100 = .ok (.l2i, 1) := by decide +kernel
theorem dX9_openSection_101 : decode cX9_openSection 101 = .ok (.iadd, 1) := by decide +kernel
theorem dX9_openSection_102 : decode cX9_openSection 102 = .ok (.putfield 60, 3) := by decide +kernel
theorem dX9_openSection_105 : decode cX9_openSection 105 = .ok (.aload_n 0, 1) := by decide +kernel
theorem dX9_openSection_106 : decode cX9_openSection 106 = .ok (.iload_n 2, 1) := by decide +kernel
theorem dX9_openSection_107 : decode cX9_openSection 107 = .ok (.putfield 34, 3) := by decide +kernel
theorem dX9_openSection_110 : decode cX9_openSection 110 = .ok (.aload_n 0, 1) := by decide +kernel
theorem dX9_openSection_111 : decode cX9_openSection 111 = .ok (.iload_n 1, 1) := by decide +kernel
theorem dX9_openSection_112 : decode cX9_openSection 112 = .ok (.putfield 87, 3) := by decide +kernel
theorem dX9_openSection_115 : decode cX9_openSection 115 = .ok (.aload_n 0, 1) := by decide +kernel
theorem dX9_openSection_116 : decode cX9_openSection 116 = .ok (.getfield 19, 3) := by decide +kernel
theorem dX9_openSection_119 : decode cX9_openSection 119 = .ok (.getfield 149, 3) := by decide +kernel
theorem dX9_openSection_122 : decode cX9_openSection 122 = .ok (.iload_n 2, 1) := by decide +kernel
theorem dX9_openSection_123 : decode cX9_openSection 123 = .ok (.iload_n 1, 1) := by decide +kernel
theorem dX9_openSection_124 : decode cX9_openSection 124 = .ok (.invokestatic 152, 3) := by decide +kernel
theorem dX9_openSection_127 : decode cX9_openSection 127 = .ok (.aload_n 0, 1) := by decide +kernel
theorem dX9_openSection_128 : decode cX9_openSection 128 = .ok (.iconst 0, 1) := by decide +kernel
theorem dX9_openSection_129 : decode cX9_openSection 129 = .ok (.putfield 133, 3) := by decide +kernel
theorem dX9_openSection_132 : decode cX9_openSection 132 = .ok (.aload_n 0, 1) := by decide +kernel
theorem dX9_openSection_133 : decode cX9_openSection 133 = .ok (.lconst 0, 1) := by decide +kernel
theorem dX9_openSection_134 : decode cX9_openSection 134 = .ok (.putfield 136, 3) := by decide +kernel
theorem dX9_openSection_137 : decode cX9_openSection 137 = .ok (.iload_n 2, 1) := by decide +kernel
theorem dX9_openSection_138 : decode cX9_openSection 138 = .ok (.ifCond .ne 23, 3) := by decide +kernel
theorem dX9_openSection_141 : decode cX9_openSection 141 = .ok (.aload_n 0, 1) := by decide +kernel
theorem dX9_openSection_142 : decode cX9_openSection 142 = .ok (.invokevirtual 156, 3) := by decide +kernel
theorem dX9_openSection_145 : decode cX9_openSection 145 = .ok (.pop, 1) := by decide +kernel
theorem dX9_openSection_146 : decode cX9_openSection 146 = .ok (.aload_n 0, 1) := by decide +kernel
theorem dX9_openSection_147 : decode cX9_openSection 147 = .ok (.aload_n 0, 1) := by decide +kernel
theorem dX9_openSection_148 : decode cX9_openSection 148 = .ok (.getfield 60, 3) := by decide +kernel
theorem dX9_openSection_151 : decode cX9_openSection 151 = .ok (.aload_n 0, 1) := by decide +kernel
theorem dX9_openSection_152 : decode cX9_openSection 152 = .ok (.getfield 51, 3) := by decide +kernel
theorem dX9_openSection_155 : decode cX9_openSection 155 = .ok (.isub, 1) := by decide +kernel
theorem dX9_openSection_156 : decode cX9_openSection 156 = .ok (.i2l, 1) := by decide +kernel
theorem dX9_openSection_157 : decode cX9_openSection 157 = .ok (.invokevirtual 159, 3) := by decide +kernel
theorem dX9_openSection_160 : decode cX9_openSection 160 = .ok (.return_, 1) := by decide +kernel
theorem dX9_openSection_161 : decode cX9_openSection 161 = .ok (.aload_n 0, 1) := by decide +kernel
theorem dX9_openSection_162 : decode cX9_openSection 162 = .ok (.bipush 32, 2) := by decide +kernel
theorem dX9_openSection_164 : decode cX9_openSection 164 = .ok (.invokevirtual 145, 3) := by decide +kernel
theorem dX9_openSection_167 : decode cX9_openSection 167 = .ok (.lstore 6, 2) := by decide +kernel
theorem dX9_openSection_169 : decode cX9_openSection 169 = .ok (.iload_n 2, 1) := by decide +kernel
theorem dX9_openSection_170 : decode cX9_openSection 170 = .ok (.bipush 8, 2) := by decide +kernel
theorem dX9_openSection_172 : decode cX9_openSection 172 = .ok (.if_icmp .ne 15, 3) := by decide +kernel
theorem dX9_openSection_175 : decode cX9_openSection 175 = .ok (.aload_n 0, 1) := by decide +kernel
theorem dX9_openSection_176 : decode cX9_openSection 176 = .ok (.getfield 19, 3) := by decide +kernel
theorem dX9_openSection_179 : decode cX9_openSection 179 = .ok (.lload 6, 2) := by decide +kernel
theorem dX9_openSection_181 : decode cX9_openSection 181 = .ok (.putfield 163, 3) := by decide +kernel
theorem dX9_openSection_184 : decode cX9_openSection 184 = .ok (.goto 28, 3) := by decide +kernel
theorem dX9_openSection_187 : decode cX9_openSection 187 = .ok (.iload_n 2, 1) := by decide +kernel
theorem dX9_openSection_188 : decode cX9_openSection 188 = .ok (.bipush 12, 2) := by decide +kernel
theorem dX9_openSection_190 : decode cX9_openSection 190 = .ok (.if_icmp .ne 15, 3) := by decide +kernel
theorem dX9_openSection_193 : decode cX9_openSection 193 = .ok (.aload_n 0, 1) := by decide +kernel
theorem dX9_openSection_194 : decode cX9_openSection 194 = .ok (.getfield 19, 3) := by decide +kernel
theorem dX9_openSection_197 : decode cX9_openSection 197 = .ok (.lload 6, 2) := by decide +kernel
theorem dX9_openSection_199 : decode cX9_openSection 199 = .ok (.putfield 80, 3) := by decide +kernel
theorem dX9_openSection_202 : decode cX9_openSection 202 = .ok (.goto 10, 3) := by decide +kernel
theorem dX9_openSection_205 : decode cX9_openSection 205 = .ok (.aload_n 0, 1) := by decide +kernel
theorem dX9_openSection_206 : decode cX9_openSection 206 = .ok (.iload_n 2, 1) := by decide +kernel
theorem dX9_openSection_207 : decode cX9_openSection 207 = .ok (.lload 6, 2) := by decide +kernel
theorem dX9_openSection_209 : decode cX9_openSection 209 = .ok (.invokevirtual 166, 3) := by decide +kernel
theorem dX9_openSection_212 : decode cX9_openSection 212 = .ok (.return_, 1) := by decide +kernel
noncomputable def fX9_openSection_b212 (h : pm_H)  : Option pm_H := some h
noncomputable def fX9_openSection_b93 (h : pm_H) (x0 : Nat) (x1 : Int32) (x2 : Int32) (x4 : Int64) : Option pm_H := if pm_kd h x0 = 9 then pm_let ((pm_I h x0 1) + x4.toInt32) fun y37 => (pm_R (pm_setI (pm_setI (pm_setI h x0 2 y37) x0 10 x2) x0 11 x1) x0 0).bind fun v39 => if pm_kd (pm_setI (pm_setI (pm_setI h x0 2 y37) x0 10 x2) x0 11 x1) v39 = 7 then (pm_R (pm_setI (pm_setI (pm_setI h x0 2 y37) x0 10 x2) x0 11 x1) v39 1).bind fun v42 => (fX12_setItem (pm_setI (pm_setI (pm_setI h x0 2 y37) x0 10 x2) x0 11 x1) v42 x2 x1).bind fun v44 => if pm_kd v44 x0 = 9 then if x2 = 0 then ((fX9_name (pm_setL (pm_setI v44 x0 15 0) x0 14 0) x0).bind fun v65 => if pm_kd v65.2 x0 = 9 then (fX9_skip v65.2 x0 (((pm_I v65.2 x0 2) - (pm_I v65.2 x0 1)).toInt64)).bind fun v69 => some v69 else none) else ((fX9_number (pm_setL (pm_setI v44 x0 15 0) x0 14 0) x0 32).bind fun v49 => if x2 = 8 then (if pm_kd v49.2 x0 = 9 then (pm_R v49.2 x0 0).bind fun v62 => if pm_kd v49.2 v62 = 7 then fX9_openSection_b212 (pm_setL v49.2 v62 13 v49.1) else none else none) else (if x2 = 12 then (if pm_kd v49.2 x0 = 9 then (pm_R v49.2 x0 0).bind fun v58 => if pm_kd v49.2 v58 = 7 then fX9_openSection_b212 (pm_setL v49.2 v58 14 v49.1) else none else none) else (if pm_kd v49.2 x0 = 9 then (fX9_makeRoom v49.2 x0 x2 v49.1).bind fun v55 => fX9_openSection_b212 v55 else none))) else none else none else none
noncomputable def fX9_openSection_b73 (h : pm_H) (x0 : Nat) (x1 : Int32) (x2 : Int32) (x4 : Int64) : Option pm_H := if pm_kd h x0 = 9 then if (pm_I h x0 3) = 0 then (if x2 ≤ 0 then (fX9_openSection_b93 h x0 x1 x2 x4) else (pm_let (fX9_rank x2) fun v34 => fX9_openSection_b93 (pm_setI h x0 12 v34) x0 x1 x2 x4)) else (some h) else none
noncomputable def fX9_openSection_b38 (h : pm_H) (x0 : Nat) (x1 : Int32) (x2 : Int32) : Option pm_H := if pm_kd h x0 = 9 then pm_let (pm_I h x0 1) fun y21 => (fX9_number h x0 32).bind fun v23 => if pm_kd v23.2 x0 = 9 then if v23.1 ≤ (((pm_I v23.2 x0 2) - (pm_I v23.2 x0 1)).toInt64) then (fX9_openSection_b73 v23.2 x0 x1 x2 v23.1) else ((fX9_fail v23.2 x0 2 y21).bind fun v28 => fX9_openSection_b73 v28 x0 x1 x2 v23.1) else none else none
noncomputable def fX9_openSection_b0 (h : pm_H) (x0 : Nat) : Option pm_H := if pm_kd h x0 = 9 then pm_let (pm_I h x0 1) fun y2 => (fX9_next h x0).bind fun v4 => if 12 < v4.1 then (if pm_kd v4.2 x0 = 9 then (fX9_fail v4.2 x0 6 y2).bind fun v9 => fX9_openSection_b38 v9 x0 y2 v4.1 else none) else (if v4.1 ≤ 0 then (fX9_openSection_b38 v4.2 x0 y2 v4.1) else (pm_let (fX9_rank v4.1) fun v13 => if pm_kd v4.2 x0 = 9 then if (pm_I v4.2 x0 12) < v13 then (fX9_openSection_b38 v4.2 x0 y2 v4.1) else ((fX9_fail v4.2 x0 6 y2).bind fun v17 => fX9_openSection_b38 v17 x0 y2 v4.1) else none)) else none
noncomputable def fX9_openSection (h : pm_H) (a0 : Nat) : Option pm_H := fX9_openSection_b0 h a0
set_option maxHeartbeats 4000000 in
set_option maxRecDepth 100000 in
theorem moX9_openSection_b212 {h : pm_H}  {r : pm_H} (hf : fX9_openSection_b212 h  = some r) : pm_Le h r := by
  unfold fX9_openSection_b212 at hf
  have K0 := pm_S3.rf h
  have hf := Option.some.inj hf
  subst hf
  exact pm_S3.le K0
set_option maxHeartbeats 4000000 in
set_option maxRecDepth 100000 in
theorem moX9_openSection_b93 {h : pm_H} {x0 : Nat} {x1 : Int32} {x2 : Int32} {x4 : Int64} {r : pm_H} (hf : fX9_openSection_b93 h x0 x1 x2 x4 = some r) : pm_Le h r := by
  unfold fX9_openSection_b93 at hf
  have K0 := pm_S3.rf h
  obtain ⟨k36, hf⟩ := pm_if hf
  obtain ⟨y37, e38, hf⟩ := pm_lt hf
  obtain ⟨v39, e40, hf⟩ := pm_bd hf
  obtain ⟨k41, hf⟩ := pm_if hf
  obtain ⟨v42, e43, hf⟩ := pm_bd hf
  obtain ⟨v44, e45, hf⟩ := pm_bd hf
  have K46 := pm_S3.trans (kpX12_setItem e45) (pm_S3I (pm_S3I (pm_S3I K0)))
  obtain ⟨k47, hf⟩ := pm_if hf
  by_cases c48 : x2 = 0
  · have hf := pm_it hf c48
    obtain ⟨v49, e50, hf⟩ := pm_bd hf
    have K51 := pm_S3.trans (kpX9_name e50) (pm_S3L (pm_S3I K46))
    obtain ⟨k52, hf⟩ := pm_if hf
    obtain ⟨v53, e54, hf⟩ := pm_bd hf
    have K55 := pm_S3.trans (kpX9_skip e54) K51
    have hf := Option.some.inj hf
    subst hf
    exact pm_S3.le K55
  · have hf := pm_ie hf c48
    obtain ⟨v56, e57, hf⟩ := pm_bd hf
    have K58 := pm_S3.trans (kpX9_number e57) (pm_S3L (pm_S3I K46))
    by_cases c59 : x2 = 8
    · have hf := pm_it hf c59
      obtain ⟨k60, hf⟩ := pm_if hf
      obtain ⟨v61, e62, hf⟩ := pm_bd hf
      obtain ⟨k63, hf⟩ := pm_if hf
      exact (pm_S3.le (pm_S3L K58)).trans (moX9_openSection_b212 hf)
    · have hf := pm_ie hf c59
      by_cases c64 : x2 = 12
      · have hf := pm_it hf c64
        obtain ⟨k65, hf⟩ := pm_if hf
        obtain ⟨v66, e67, hf⟩ := pm_bd hf
        obtain ⟨k68, hf⟩ := pm_if hf
        exact (pm_S3.le (pm_S3L K58)).trans (moX9_openSection_b212 hf)
      · have hf := pm_ie hf c64
        obtain ⟨k69, hf⟩ := pm_if hf
        obtain ⟨v70, e71, hf⟩ := pm_bd hf
        exact ((pm_S3.le K58).trans (moX9_makeRoom e71)).trans (moX9_openSection_b212 hf)
set_option maxHeartbeats 4000000 in
set_option maxRecDepth 100000 in
theorem moX9_openSection_b73 {h : pm_H} {x0 : Nat} {x1 : Int32} {x2 : Int32} {x4 : Int64} {r : pm_H} (hf : fX9_openSection_b73 h x0 x1 x2 x4 = some r) : pm_Le h r := by
  unfold fX9_openSection_b73 at hf
  have K0 := pm_S3.rf h
  obtain ⟨k31, hf⟩ := pm_if hf
  by_cases c32 : (pm_I h x0 3) = 0
  · have hf := pm_it hf c32
    by_cases c33 : x2 ≤ 0
    · have hf := pm_it hf c33
      exact (pm_S3.le K0).trans (moX9_openSection_b93 hf)
    · have hf := pm_ie hf c33
      obtain ⟨v34, e35, hf⟩ := pm_lt hf
      exact (pm_S3.le (pm_S3I K0)).trans (moX9_openSection_b93 hf)
  · have hf := pm_ie hf c32
    have hf := Option.some.inj hf
    subst hf
    exact pm_S3.le K0
set_option maxHeartbeats 4000000 in
set_option maxRecDepth 100000 in
theorem moX9_openSection_b38 {h : pm_H} {x0 : Nat} {x1 : Int32} {x2 : Int32} {r : pm_H} (hf : fX9_openSection_b38 h x0 x1 x2 = some r) : pm_Le h r := by
  unfold fX9_openSection_b38 at hf
  have K0 := pm_S3.rf h
  obtain ⟨k20, hf⟩ := pm_if hf
  obtain ⟨y21, e22, hf⟩ := pm_lt hf
  obtain ⟨v23, e24, hf⟩ := pm_bd hf
  have K25 := pm_S3.trans (kpX9_number e24) K0
  obtain ⟨k26, hf⟩ := pm_if hf
  by_cases c27 : v23.1 ≤ (((pm_I v23.2 x0 2) - (pm_I v23.2 x0 1)).toInt64)
  · have hf := pm_it hf c27
    exact (pm_S3.le K25).trans (moX9_openSection_b73 hf)
  · have hf := pm_ie hf c27
    obtain ⟨v28, e29, hf⟩ := pm_bd hf
    have K30 := pm_S3.trans (kpX9_fail e29) K25
    exact (pm_S3.le K30).trans (moX9_openSection_b73 hf)
set_option maxHeartbeats 4000000 in
set_option maxRecDepth 100000 in
theorem moX9_openSection_b0 {h : pm_H} {x0 : Nat} {r : pm_H} (hf : fX9_openSection_b0 h x0 = some r) : pm_Le h r := by
  unfold fX9_openSection_b0 at hf
  have K0 := pm_S3.rf h
  obtain ⟨k1, hf⟩ := pm_if hf
  obtain ⟨y2, e3, hf⟩ := pm_lt hf
  obtain ⟨v4, e5, hf⟩ := pm_bd hf
  have K6 := pm_S3.trans (kpX9_next e5) K0
  by_cases c7 : 12 < v4.1
  · have hf := pm_it hf c7
    obtain ⟨k8, hf⟩ := pm_if hf
    obtain ⟨v9, e10, hf⟩ := pm_bd hf
    have K11 := pm_S3.trans (kpX9_fail e10) K6
    exact (pm_S3.le K11).trans (moX9_openSection_b38 hf)
  · have hf := pm_ie hf c7
    by_cases c12 : v4.1 ≤ 0
    · have hf := pm_it hf c12
      exact (pm_S3.le K6).trans (moX9_openSection_b38 hf)
    · have hf := pm_ie hf c12
      obtain ⟨v13, e14, hf⟩ := pm_lt hf
      obtain ⟨k15, hf⟩ := pm_if hf
      by_cases c16 : (pm_I v4.2 x0 12) < v13
      · have hf := pm_it hf c16
        exact (pm_S3.le K6).trans (moX9_openSection_b38 hf)
      · have hf := pm_ie hf c16
        obtain ⟨v17, e18, hf⟩ := pm_bd hf
        have K19 := pm_S3.trans (kpX9_fail e18) K6
        exact (pm_S3.le K19).trans (moX9_openSection_b38 hf)
set_option maxHeartbeats 4000000 in
set_option maxRecDepth 100000 in
theorem moX9_openSection {h : pm_H} {a0 : Nat} {r : pm_H} (hf : fX9_openSection h a0 = some r) : pm_Le h r := by
  unfold fX9_openSection at hf
  have K0 := pm_S3.rf h
  exact (pm_S3.le K0).trans (moX9_openSection_b0 hf)
set_option maxHeartbeats 4000000 in
set_option maxRecDepth 100000 in
theorem bX9_openSection_212 {g : pm_Gm} {l : Launch} {G : pm_Gl} {Qr : Option Value → pm_H → Prop} (C : pm_C g cX9_openSection RX9) {h0 h : pm_H}  {r : pm_H} (X : pm_X g l G mX9_openSection (pm_sz r - pm_sz h0) (pm_us r - pm_us h0) Qr) (m0 : pm_Le h0 h) (hf : fX9_openSection_b212 h  = some r) (q : Qr none r) : pm_G g 212 [] [] h (pm_sz h - pm_sz h0) (pm_us h - pm_us h0) := by
  have le0 := moX9_openSection_b212 hf
  have kc1 := Nat.sub_le_sub_right le0.1 (pm_sz h0)
  have kc2 := Nat.sub_le_sub_right le0.2 (pm_us h0)
  have K0 := pm_S3.rf h
  unfold fX9_openSection_b212 at hf
  have hf := Option.some.inj hf
  subst hf
  exact pm_vret C X dX9_openSection_212 rfl kc1 kc2 q
set_option maxHeartbeats 4000000 in
set_option maxRecDepth 100000 in
theorem bX9_openSection_93 {g : pm_Gm} {l : Launch} {G : pm_Gl} {Qr : Option Value → pm_H → Prop} (C : pm_C g cX9_openSection RX9) {h0 h : pm_H} {x0 : Nat} {x1 : Int32} {x2 : Int32} {x4 : Int64} {r : pm_H} (X : pm_X g l G mX9_openSection (pm_sz r - pm_sz h0) (pm_us r - pm_us h0) Qr) (m0 : pm_Le h0 h) (hf : fX9_openSection_b93 h x0 x1 x2 x4 = some r) (q : Qr none r) : pm_G g 93 [(0, .ref x0), (1, .int x1), (2, .int x2), (4, .long x4)] [] h (pm_sz h - pm_sz h0) (pm_us h - pm_us h0) := by
  have le0 := moX9_openSection_b93 hf
  have kc1 := Nat.sub_le_sub_right le0.1 (pm_sz h0)
  have kc2 := Nat.sub_le_sub_right le0.2 (pm_us h0)
  have K0 := pm_S3.rf h
  unfold fX9_openSection_b93 at hf
  refine pm_aload_n C dX9_openSection_93 rfl rfl ?_
  refine pm_aload_n C dX9_openSection_94 rfl rfl ?_
  obtain ⟨k36, hf⟩ := pm_if hf
  refine pm_getI C dX9_openSection_95 flX9_51 rfl k36 rfl ?_
  refine pm_lload C dX9_openSection_98 rfl ?_
  refine pm_l2i C dX9_openSection_100 ?_
  refine pm_iadd C dX9_openSection_101 ?_
  obtain ⟨y37, e38, hf⟩ := pm_lt hf
  refine pm_topI e38 ?_
  refine pm_putI C dX9_openSection_102 flX9_60 rfl rfl k36 rfl rfl ?_
  refine pm_aload_n C dX9_openSection_105 rfl rfl ?_
  refine pm_iload_n C dX9_openSection_106 rfl rfl ?_
  refine pm_putI C dX9_openSection_107 flX9_34 rfl rfl k36 rfl rfl ?_
  refine pm_aload_n C dX9_openSection_110 rfl rfl ?_
  refine pm_iload_n C dX9_openSection_111 rfl rfl ?_
  refine pm_putI C dX9_openSection_112 flX9_87 rfl rfl k36 rfl rfl ?_
  refine pm_aload_n C dX9_openSection_115 rfl rfl ?_
  obtain ⟨v39, e40, hf⟩ := pm_bd hf
  refine pm_getR C dX9_openSection_116 flX9_19 rfl k36 e40 ?_
  obtain ⟨k41, hf⟩ := pm_if hf
  obtain ⟨v42, e43, hf⟩ := pm_bd hf
  refine pm_getR C dX9_openSection_119 flX9_149 rfl k41 e43 ?_
  refine pm_iload_n C dX9_openSection_122 rfl rfl ?_
  refine pm_iload_n C dX9_openSection_123 rfl rfl ?_
  obtain ⟨v44, e45, hf⟩ := pm_bd hf
  refine pm_callS (as := [.ref v42, .int x2, .int x1]) (st := []) C X dX9_openSection_124 lnX9_152 myX12_setItem stX12_setItem ⟨by decide, by decide⟩ rfl rfl (Nat.le_of_ble_eq_true rfl) kc1 kc2 (ctX12_setItem e45 ?_)
  have K46 := pm_S3.trans (kpX12_setItem e45) (pm_S3I (pm_S3I (pm_S3I K0)))
  show pm_G g 127 [(0, .ref x0), (1, .int x1), (2, .int x2), (4, .long x4)] [] v44 (pm_sz h - pm_sz h0) (pm_us h - pm_us h0)
  refine pm_aload_n C dX9_openSection_127 rfl rfl ?_
  refine pm_iconst (v := 0) C dX9_openSection_128 (by decide) ?_
  obtain ⟨k47, hf⟩ := pm_if hf
  refine pm_putI C dX9_openSection_129 flX9_133 rfl rfl k47 rfl rfl ?_
  refine pm_aload_n C dX9_openSection_132 rfl rfl ?_
  refine pm_lconst (v := 0) C dX9_openSection_133 (by decide) ?_
  refine pm_putL C dX9_openSection_134 flX9_136 rfl rfl k47 ?_
  refine pm_iload_n C dX9_openSection_137 rfl rfl ?_
  refine pm_if_ne (tgt := 161) C dX9_openSection_138 (by decide) (fun c48 => ?_) (fun c48 => ?_)
  · have hf := pm_ie hf c48
    refine pm_aload_n C dX9_openSection_161 rfl rfl ?_
    refine pm_bipush (v := 32) C dX9_openSection_162 (by decide) ?_
    obtain ⟨v49, e50, hf⟩ := pm_bd hf
    refine pm_callV (as := [.int 32]) (st := []) C X dX9_openSection_164 lnX9_145 myX9_number viX9_number ⟨by decide, by decide⟩ rfl rfl k47 (Nat.le_of_ble_eq_true rfl) kc1 kc2 (ctX9_number e50 ?_)
    have K51 := pm_S3.trans (kpX9_number e50) (pm_S3L (pm_S3I K46))
    show pm_G g 167 [(0, .ref x0), (1, .int x1), (2, .int x2), (4, .long x4)] [.long v49.1] v49.2 (pm_sz h - pm_sz h0) (pm_us h - pm_us h0)
    refine pm_lstore (lv' := [(6, .long v49.1), (0, .ref x0), (1, .int x1), (2, .int x2), (4, .long x4)]) C dX9_openSection_167 (pm_nl X (by decide)) rfl ?_
    refine pm_iload_n C dX9_openSection_169 rfl rfl ?_
    refine pm_bipush (v := 8) C dX9_openSection_170 (by decide) ?_
    refine pm_icmp_ne (tgt := 187) C dX9_openSection_172 (by decide) (fun c52 => ?_) (fun c52 => ?_)
    · have hf := pm_ie hf c52
      refine pm_iload_n C dX9_openSection_187 rfl rfl ?_
      refine pm_bipush (v := 12) C dX9_openSection_188 (by decide) ?_
      refine pm_icmp_ne (tgt := 205) C dX9_openSection_190 (by decide) (fun c53 => ?_) (fun c53 => ?_)
      · have hf := pm_ie hf c53
        refine pm_aload_n C dX9_openSection_205 rfl rfl ?_
        refine pm_iload_n C dX9_openSection_206 rfl rfl ?_
        refine pm_lload C dX9_openSection_207 rfl ?_
        obtain ⟨k54, hf⟩ := pm_if hf
        obtain ⟨v55, e56, hf⟩ := pm_bd hf
        refine pm_callV (as := [.int x2, .long v49.1]) (st := []) C X dX9_openSection_209 lnX9_166 myX9_makeRoom viX9_makeRoom ⟨by decide, by decide⟩ rfl rfl k54 (Nat.le_of_ble_eq_true rfl) (pa_le1 K51 m0 (moX9_makeRoom e56) (moX9_openSection_b212 hf)) (pa_le2 K51 m0 (moX9_makeRoom e56) (moX9_openSection_b212 hf)) (ctX9_makeRoom e56 ?_)
        show pm_G g 212 [(6, .long v49.1), (0, .ref x0), (1, .int x1), (2, .int x2), (4, .long x4)] [] v55 (pm_sz h - pm_sz h0 + (pm_sz v55 - pm_sz v49.2)) (pm_us h - pm_us h0 + (pm_us v55 - pm_us v49.2))
        refine pa_fin K51 m0 (moX9_makeRoom e56) ?_
        exact pm_sub [] rfl (bX9_openSection_212 C X ((m0.trans (pm_S3.le K51)).trans (moX9_makeRoom e56)) hf q)
      · have hf := pm_it hf c53
        refine pm_aload_n C dX9_openSection_193 rfl rfl ?_
        obtain ⟨k57, hf⟩ := pm_if hf
        obtain ⟨v58, e59, hf⟩ := pm_bd hf
        refine pm_getR C dX9_openSection_194 flX9_19 rfl k57 e59 ?_
        refine pm_lload C dX9_openSection_197 rfl ?_
        obtain ⟨k60, hf⟩ := pm_if hf
        refine pm_putL C dX9_openSection_199 flX9_80 rfl rfl k60 ?_
        refine pm_goto (tgt := 212) C dX9_openSection_202 (by decide) ?_
        exact pa_join (pm_S3L K51) (pm_sub [] rfl (bX9_openSection_212 C X (m0.trans (pm_S3.le (pm_S3L K51))) hf q))
    · have hf := pm_it hf c52
      refine pm_aload_n C dX9_openSection_175 rfl rfl ?_
      obtain ⟨k61, hf⟩ := pm_if hf
      obtain ⟨v62, e63, hf⟩ := pm_bd hf
      refine pm_getR C dX9_openSection_176 flX9_19 rfl k61 e63 ?_
      refine pm_lload C dX9_openSection_179 rfl ?_
      obtain ⟨k64, hf⟩ := pm_if hf
      refine pm_putL C dX9_openSection_181 flX9_163 rfl rfl k64 ?_
      refine pm_goto (tgt := 212) C dX9_openSection_184 (by decide) ?_
      exact pa_join (pm_S3L K51) (pm_sub [] rfl (bX9_openSection_212 C X (m0.trans (pm_S3.le (pm_S3L K51))) hf q))
  · have hf := pm_it hf c48
    refine pm_aload_n C dX9_openSection_141 rfl rfl ?_
    obtain ⟨v65, e66, hf⟩ := pm_bd hf
    refine pm_callV (as := []) (st := []) C X dX9_openSection_142 lnX9_156 myX9_name viX9_name ⟨by decide, by decide⟩ rfl rfl k47 (Nat.le_of_ble_eq_true rfl) kc1 kc2 (ctX9_name e66 ?_)
    have K67 := pm_S3.trans (kpX9_name e66) (pm_S3L (pm_S3I K46))
    show pm_G g 145 [(0, .ref x0), (1, .int x1), (2, .int x2), (4, .long x4)] [.int v65.1] v65.2 (pm_sz h - pm_sz h0) (pm_us h - pm_us h0)
    refine pm_pop C dX9_openSection_145 rfl ?_
    refine pm_aload_n C dX9_openSection_146 rfl rfl ?_
    refine pm_aload_n C dX9_openSection_147 rfl rfl ?_
    obtain ⟨k68, hf⟩ := pm_if hf
    refine pm_getI C dX9_openSection_148 flX9_60 rfl k68 rfl ?_
    refine pm_aload_n C dX9_openSection_151 rfl rfl ?_
    refine pm_getI C dX9_openSection_152 flX9_51 rfl k68 rfl ?_
    refine pm_isub C dX9_openSection_155 ?_
    refine pm_i2l C dX9_openSection_156 ?_
    obtain ⟨v69, e70, hf⟩ := pm_bd hf
    refine pm_callV (as := [.long (((pm_I v65.2 x0 2) - (pm_I v65.2 x0 1)).toInt64)]) (st := []) C X dX9_openSection_157 lnX9_159 myX9_skip viX9_skip ⟨by decide, by decide⟩ rfl rfl k68 (Nat.le_of_ble_eq_true rfl) kc1 kc2 (ctX9_skip e70 ?_)
    have K71 := pm_S3.trans (kpX9_skip e70) K67
    show pm_G g 160 [(0, .ref x0), (1, .int x1), (2, .int x2), (4, .long x4)] [] v69 (pm_sz h - pm_sz h0) (pm_us h - pm_us h0)
    have hf := Option.some.inj hf
    subst hf
    exact pm_vret C X dX9_openSection_160 rfl kc1 kc2 q
set_option maxHeartbeats 4000000 in
set_option maxRecDepth 100000 in
theorem bX9_openSection_73 {g : pm_Gm} {l : Launch} {G : pm_Gl} {Qr : Option Value → pm_H → Prop} (C : pm_C g cX9_openSection RX9) {h0 h : pm_H} {x0 : Nat} {x1 : Int32} {x2 : Int32} {x4 : Int64} {r : pm_H} (X : pm_X g l G mX9_openSection (pm_sz r - pm_sz h0) (pm_us r - pm_us h0) Qr) (m0 : pm_Le h0 h) (hf : fX9_openSection_b73 h x0 x1 x2 x4 = some r) (q : Qr none r) : pm_G g 73 [(0, .ref x0), (1, .int x1), (2, .int x2), (4, .long x4)] [] h (pm_sz h - pm_sz h0) (pm_us h - pm_us h0) := by
  have le0 := moX9_openSection_b73 hf
  have kc1 := Nat.sub_le_sub_right le0.1 (pm_sz h0)
  have kc2 := Nat.sub_le_sub_right le0.2 (pm_us h0)
  have K0 := pm_S3.rf h
  unfold fX9_openSection_b73 at hf
  refine pm_aload_n C dX9_openSection_73 rfl rfl ?_
  obtain ⟨k31, hf⟩ := pm_if hf
  refine pm_getI C dX9_openSection_74 flX9_40 rfl k31 rfl ?_
  refine pm_if_eq (tgt := 81) C dX9_openSection_77 (by decide) (fun c32 => ?_) (fun c32 => ?_)
  · have hf := pm_it hf c32
    refine pm_iload_n C dX9_openSection_81 rfl rfl ?_
    refine pm_if_le (tgt := 93) C dX9_openSection_82 (by decide) (fun c33 => ?_) (fun c33 => ?_)
    · have hf := pm_it hf c33
      exact pa_join K0 (pm_sub [0, 1, 2, 3] rfl (bX9_openSection_93 C X (m0.trans (pm_S3.le K0)) hf q))
    · have hf := pm_ie hf c33
      refine pm_aload_n C dX9_openSection_85 rfl rfl ?_
      refine pm_iload_n C dX9_openSection_86 rfl rfl ?_
      obtain ⟨v34, e35, hf⟩ := pm_lt hf
      refine pm_callS (as := [.int x2]) (st := [.ref x0]) C X dX9_openSection_87 lnX9_142 myX9_rank stX9_rank ⟨by decide, by decide⟩ rfl rfl (Nat.le_of_ble_eq_true rfl) kc1 kc2 (ctX9_rank e35 ?_)
      show pm_G g 90 [(0, .ref x0), (1, .int x1), (2, .int x2), (4, .long x4)] [.int v34, .ref x0] h (pm_sz h - pm_sz h0) (pm_us h - pm_us h0)
      refine pm_putI C dX9_openSection_90 flX9_31 rfl rfl k31 rfl rfl ?_
      exact pa_join (pm_S3I K0) (pm_sub [0, 1, 2, 3] rfl (bX9_openSection_93 C X (m0.trans (pm_S3.le (pm_S3I K0))) hf q))
  · have hf := pm_ie hf c32
    have hf := Option.some.inj hf
    subst hf
    exact pm_vret C X dX9_openSection_80 rfl kc1 kc2 q
set_option maxHeartbeats 4000000 in
set_option maxRecDepth 100000 in
theorem bX9_openSection_38 {g : pm_Gm} {l : Launch} {G : pm_Gl} {Qr : Option Value → pm_H → Prop} (C : pm_C g cX9_openSection RX9) {h0 h : pm_H} {x0 : Nat} {x1 : Int32} {x2 : Int32} {r : pm_H} (X : pm_X g l G mX9_openSection (pm_sz r - pm_sz h0) (pm_us r - pm_us h0) Qr) (m0 : pm_Le h0 h) (hf : fX9_openSection_b38 h x0 x1 x2 = some r) (q : Qr none r) : pm_G g 38 [(0, .ref x0), (1, .int x1), (2, .int x2)] [] h (pm_sz h - pm_sz h0) (pm_us h - pm_us h0) := by
  have le0 := moX9_openSection_b38 hf
  have kc1 := Nat.sub_le_sub_right le0.1 (pm_sz h0)
  have kc2 := Nat.sub_le_sub_right le0.2 (pm_us h0)
  have K0 := pm_S3.rf h
  unfold fX9_openSection_b38 at hf
  refine pm_aload_n C dX9_openSection_38 rfl rfl ?_
  obtain ⟨k20, hf⟩ := pm_if hf
  refine pm_getI C dX9_openSection_39 flX9_51 rfl k20 rfl ?_
  obtain ⟨y21, e22, hf⟩ := pm_lt hf
  refine pm_topI e22 ?_
  refine pm_istore_n (lv' := [(3, .int y21), (0, .ref x0), (1, .int x1), (2, .int x2)]) C dX9_openSection_42 rfl (pm_nl X (by decide)) rfl ?_
  refine pm_aload_n C dX9_openSection_43 rfl rfl ?_
  refine pm_bipush (v := 32) C dX9_openSection_44 (by decide) ?_
  obtain ⟨v23, e24, hf⟩ := pm_bd hf
  refine pm_callV (as := [.int 32]) (st := []) C X dX9_openSection_46 lnX9_145 myX9_number viX9_number ⟨by decide, by decide⟩ rfl rfl k20 (Nat.le_of_ble_eq_true rfl) kc1 kc2 (ctX9_number e24 ?_)
  have K25 := pm_S3.trans (kpX9_number e24) K0
  show pm_G g 49 [(3, .int y21), (0, .ref x0), (1, .int x1), (2, .int x2)] [.long v23.1] v23.2 (pm_sz h - pm_sz h0) (pm_us h - pm_us h0)
  refine pm_lstore (lv' := [(4, .long v23.1), (3, .int y21), (0, .ref x0), (1, .int x1), (2, .int x2)]) C dX9_openSection_49 (pm_nl X (by decide)) rfl ?_
  refine pm_lload C dX9_openSection_51 rfl ?_
  refine pm_aload_n C dX9_openSection_53 rfl rfl ?_
  obtain ⟨k26, hf⟩ := pm_if hf
  refine pm_getI C dX9_openSection_54 flX9_60 rfl k26 rfl ?_
  refine pm_aload_n C dX9_openSection_57 rfl rfl ?_
  refine pm_getI C dX9_openSection_58 flX9_51 rfl k26 rfl ?_
  refine pm_isub C dX9_openSection_61 ?_
  refine pm_i2l C dX9_openSection_62 ?_
  refine pm_lcmp C dX9_openSection_63 ?_
  refine pm_if_le (tgt := 73) C dX9_openSection_64 (by decide) (fun c27 => ?_) (fun c27 => ?_)
  · have hf := pm_it hf ((pm_lg_le _ _).mp c27)
    exact pa_join K25 (pm_sub [2, 3, 4, 0] rfl (bX9_openSection_73 C X (m0.trans (pm_S3.le K25)) hf q))
  · have hf := pm_ie hf ((fun z => c27 ((pm_lg_le _ _).mpr z)))
    refine pm_aload_n C dX9_openSection_67 rfl rfl ?_
    refine pm_iconst (v := 2) C dX9_openSection_68 (by decide) ?_
    refine pm_iload_n C dX9_openSection_69 rfl rfl ?_
    obtain ⟨v28, e29, hf⟩ := pm_bd hf
    refine pm_callV (as := [.int 2, .int y21]) (st := []) C X dX9_openSection_70 lnX9_47 myX9_fail viX9_fail ⟨by decide, by decide⟩ rfl rfl k26 (Nat.le_of_ble_eq_true rfl) kc1 kc2 (ctX9_fail e29 ?_)
    have K30 := pm_S3.trans (kpX9_fail e29) K25
    show pm_G g 73 [(4, .long v23.1), (3, .int y21), (0, .ref x0), (1, .int x1), (2, .int x2)] [] v28 (pm_sz h - pm_sz h0) (pm_us h - pm_us h0)
    exact pa_join K30 (pm_sub [2, 3, 4, 0] rfl (bX9_openSection_73 C X (m0.trans (pm_S3.le K30)) hf q))
set_option maxHeartbeats 4000000 in
set_option maxRecDepth 100000 in
theorem bX9_openSection_0 {g : pm_Gm} {l : Launch} {G : pm_Gl} {Qr : Option Value → pm_H → Prop} (C : pm_C g cX9_openSection RX9) {h0 h : pm_H} {x0 : Nat} {r : pm_H} (X : pm_X g l G mX9_openSection (pm_sz r - pm_sz h0) (pm_us r - pm_us h0) Qr) (m0 : pm_Le h0 h) (hf : fX9_openSection_b0 h x0 = some r) (q : Qr none r) : pm_G g 0 [(0, .ref x0)] [] h (pm_sz h - pm_sz h0) (pm_us h - pm_us h0) := by
  have le0 := moX9_openSection_b0 hf
  have kc1 := Nat.sub_le_sub_right le0.1 (pm_sz h0)
  have kc2 := Nat.sub_le_sub_right le0.2 (pm_us h0)
  have K0 := pm_S3.rf h
  unfold fX9_openSection_b0 at hf
  refine pm_aload_n C dX9_openSection_0 rfl rfl ?_
  obtain ⟨k1, hf⟩ := pm_if hf
  refine pm_getI C dX9_openSection_1 flX9_51 rfl k1 rfl ?_
  obtain ⟨y2, e3, hf⟩ := pm_lt hf
  refine pm_topI e3 ?_
  refine pm_istore_n (lv' := [(1, .int y2), (0, .ref x0)]) C dX9_openSection_4 rfl (pm_nl X (by decide)) rfl ?_
  refine pm_aload_n C dX9_openSection_5 rfl rfl ?_
  obtain ⟨v4, e5, hf⟩ := pm_bd hf
  refine pm_callV (as := []) (st := []) C X dX9_openSection_6 lnX9_43 myX9_next viX9_next ⟨by decide, by decide⟩ rfl rfl k1 (Nat.le_of_ble_eq_true rfl) kc1 kc2 (ctX9_next e5 ?_)
  have K6 := pm_S3.trans (kpX9_next e5) K0
  show pm_G g 9 [(1, .int y2), (0, .ref x0)] [.int v4.1] v4.2 (pm_sz h - pm_sz h0) (pm_us h - pm_us h0)
  refine pm_istore_n (lv' := [(2, .int v4.1), (1, .int y2), (0, .ref x0)]) C dX9_openSection_9 rfl (pm_nl X (by decide)) rfl ?_
  refine pm_iload_n C dX9_openSection_10 rfl rfl ?_
  refine pm_bipush (v := 12) C dX9_openSection_11 (by decide) ?_
  refine pm_icmp_gt (tgt := 31) C dX9_openSection_13 (by decide) (fun c7 => ?_) (fun c7 => ?_)
  · have hf := pm_it hf c7
    refine pm_aload_n C dX9_openSection_31 rfl rfl ?_
    refine pm_bipush (v := 6) C dX9_openSection_32 (by decide) ?_
    refine pm_iload_n C dX9_openSection_34 rfl rfl ?_
    obtain ⟨k8, hf⟩ := pm_if hf
    obtain ⟨v9, e10, hf⟩ := pm_bd hf
    refine pm_callV (as := [.int 6, .int y2]) (st := []) C X dX9_openSection_35 lnX9_47 myX9_fail viX9_fail ⟨by decide, by decide⟩ rfl rfl k8 (Nat.le_of_ble_eq_true rfl) kc1 kc2 (ctX9_fail e10 ?_)
    have K11 := pm_S3.trans (kpX9_fail e10) K6
    show pm_G g 38 [(2, .int v4.1), (1, .int y2), (0, .ref x0)] [] v9 (pm_sz h - pm_sz h0) (pm_us h - pm_us h0)
    exact pa_join K11 (pm_sub [2, 1, 0] rfl (bX9_openSection_38 C X (m0.trans (pm_S3.le K11)) hf q))
  · have hf := pm_ie hf c7
    refine pm_iload_n C dX9_openSection_16 rfl rfl ?_
    refine pm_if_le (tgt := 38) C dX9_openSection_17 (by decide) (fun c12 => ?_) (fun c12 => ?_)
    · have hf := pm_it hf c12
      exact pa_join K6 (pm_sub [2, 1, 0] rfl (bX9_openSection_38 C X (m0.trans (pm_S3.le K6)) hf q))
    · have hf := pm_ie hf c12
      refine pm_iload_n C dX9_openSection_20 rfl rfl ?_
      obtain ⟨v13, e14, hf⟩ := pm_lt hf
      refine pm_callS (as := [.int v4.1]) (st := []) C X dX9_openSection_21 lnX9_142 myX9_rank stX9_rank ⟨by decide, by decide⟩ rfl rfl (Nat.le_of_ble_eq_true rfl) kc1 kc2 (ctX9_rank e14 ?_)
      show pm_G g 24 [(2, .int v4.1), (1, .int y2), (0, .ref x0)] [.int v13] v4.2 (pm_sz h - pm_sz h0) (pm_us h - pm_us h0)
      refine pm_aload_n C dX9_openSection_24 rfl rfl ?_
      obtain ⟨k15, hf⟩ := pm_if hf
      refine pm_getI C dX9_openSection_25 flX9_31 rfl k15 rfl ?_
      refine pm_icmp_gt (tgt := 38) C dX9_openSection_28 (by decide) (fun c16 => ?_) (fun c16 => ?_)
      · have hf := pm_it hf c16
        exact pa_join K6 (pm_sub [2, 1, 0] rfl (bX9_openSection_38 C X (m0.trans (pm_S3.le K6)) hf q))
      · have hf := pm_ie hf c16
        refine pm_aload_n C dX9_openSection_31 rfl rfl ?_
        refine pm_bipush (v := 6) C dX9_openSection_32 (by decide) ?_
        refine pm_iload_n C dX9_openSection_34 rfl rfl ?_
        obtain ⟨v17, e18, hf⟩ := pm_bd hf
        refine pm_callV (as := [.int 6, .int y2]) (st := []) C X dX9_openSection_35 lnX9_47 myX9_fail viX9_fail ⟨by decide, by decide⟩ rfl rfl k15 (Nat.le_of_ble_eq_true rfl) kc1 kc2 (ctX9_fail e18 ?_)
        have K19 := pm_S3.trans (kpX9_fail e18) K6
        show pm_G g 38 [(2, .int v4.1), (1, .int y2), (0, .ref x0)] [] v17 (pm_sz h - pm_sz h0) (pm_us h - pm_us h0)
        exact pa_join K19 (pm_sub [2, 1, 0] rfl (bX9_openSection_38 C X (m0.trans (pm_S3.le K19)) hf q))
set_option maxHeartbeats 4000000 in
set_option maxRecDepth 100000 in
theorem ctX9_openSection {l : Launch} {G : pm_Gl} {h : pm_H} {a0 : Nat} {r : pm_H} {Qr : Option Value → pm_H → Prop} (hf : fX9_openSection h a0 = some r) (q : Qr none r) : pm_Ct l G mX9_openSection [.ref a0] h (pm_sz r - pm_sz h) (pm_us r - pm_us h) Qr := by
  refine pm_body pnX9 (Nat.le_of_ble_eq_true rfl) (fun g C X => ?_)
  have C : pm_C g cX9_openSection RX9 := C
  show pm_G g 0 [(0, .ref a0)] [] h 0 0
  unfold fX9_openSection at hf
  exact pa_start (pm_sub [0] rfl (bX9_openSection_0 C X (pm_Le.rf h) hf q))
