theorem dX9_makeRoom_0 : decode cX9_makeRoom 0 = .ok (.aload_n 0, 1) := by decide +kernel
theorem dX9_makeRoom_1 : decode cX9_makeRoom 1 = .ok (.lload_n 2, 1) := by decide +kernel
theorem dX9_makeRoom_2 : decode cX9_makeRoom 2 = .ok (.putfield 136, 3) := by decide +kernel
theorem dX9_makeRoom_5 : decode cX9_makeRoom 5 = .ok (.lload_n 2, 1) := by decide +kernel
theorem dX9_makeRoom_6 : decode cX9_makeRoom 6 = .ok (.ldc2_w 173, 3) := by decide +kernel
theorem dX9_makeRoom_9 : decode cX9_makeRoom 9 = .ok (.lcmp, 1) := by decide +kernel
theorem dX9_makeRoom_10 : decode cX9_makeRoom 10 = .ok (.ifCond .le 7, 3) := by decide +kernel
theorem dX9_makeRoom_13 : decode cX9_makeRoom 13 = .ok (.aload_n 0, 1) := by decide +kernel
theorem dX9_makeRoom_14 : decode cX9_makeRoom 14 = .ok (.invokevirtual 175, 3) := by decide +kernel
theorem dX9_makeRoom_17 : decode cX9_makeRoom 17 = .ok (.lconst 0, 1) := by decide +kernel
theorem dX9_makeRoom_18 : decode cX9_makeRoom 18 = .ok (.lload_n 2, 1) := by decide +kernel
theorem dX9_makeRoom_19 : decode cX9_makeRoom 19 = .ok (.aload_n 0, 1) := by decide +kernel
theorem dX9_makeRoom_20 : decode cX9_makeRoom 20 = .ok (.getfield 60, 3) := by decide +kernel
theorem dX9_makeRoom_23 : decode cX9_makeRoom 23 = .ok (.aload_n 0, 1) := by decide +kernel
theorem dX9_makeRoom_24 : decode cX9_makeRoom 24 = .ok (.getfield 51, 3) := by decide +kernel
theorem dX9_makeRoom_27 : decode cX9_makeRoom 27 = .ok (.isub, 1) := by decide +kernel
theorem dX9_makeRoom_28 : decode cX9_makeRoom 28 = .ok (.i2l, 1) := by decide +kernel
theorem dX9_makeRoom_29 : decode cX9_makeRoom 29 = .ok (.invokestatic 178, 3) := by decide +kernel
theorem dX9_makeRoom_32 : decode cX9_makeRoom 32 = .ok (.invokestatic 182, 3) := by decide +kernel
theorem dX9_makeRoom_35 : decode cX9_makeRoom 35 = .ok (.l2i, 1) := by decide +kernel
theorem dX9_makeRoom_36 : decode cX9_makeRoom 36 = .ok (.istore 4, 2) := by decide +kernel
theorem dX9_makeRoom_38 : decode cX9_makeRoom 38 = .ok (.iload_n 1, 1) := by decide +kernel
theorem dX9_makeRoom_39 : decode cX9_makeRoom 39 = .ok (.iconst 3, 1) := by decide +kernel
theorem dX9_makeRoom_40 : decode cX9_makeRoom 40 = .ok (.if_icmp .lt 56, 3) := by decide +kernel
theorem dX9_makeRoom_43 : decode cX9_makeRoom 43 = .ok (.iload_n 1, 1) := by decide +kernel
theorem dX9_makeRoom_44 : decode cX9_makeRoom 44 = .ok (.bipush 6, 2) := by decide +kernel
theorem dX9_makeRoom_46 : decode cX9_makeRoom 46 = .ok (.if_icmp .gt 50, 3) := by decide +kernel
theorem dX9_makeRoom_49 : decode cX9_makeRoom 49 = .ok (.aload_n 0, 1) := by decide +kernel
theorem dX9_makeRoom_50 : decode cX9_makeRoom 50 = .ok (.aload_n 0, 1) := by decide +kernel
theorem dX9_makeRoom_51 : decode cX9_makeRoom 51 = .ok (.getfield 19, 3) := by decide +kernel
theorem dX9_makeRoom_54 : decode cX9_makeRoom 54 = .ok (.iload_n 1, 1) := by decide +kernel
theorem dX9_makeRoom_55 : decode cX9_makeRoom 55 = .ok (.iconst 3, 1) := by decide +kernel
theorem dX9_makeRoom_56 : decode cX9_makeRoom 56 = .ok (.isub, 1) := by decide +kernel
theorem dX9_makeRoom_57 : decode cX9_makeRoom 57 = .ok (.invokevirtual 70, 3) := by decide +kernel
theorem dX9_makeRoom_60 : decode cX9_makeRoom 60 = .ok (.putfield 185, 3) := by decide +kernel
theorem dX9_makeRoom_63 : decode cX9_makeRoom 63 = .ok (.aload_n 0, 1) := by decide +kernel
theorem dX9_makeRoom_64 : decode cX9_makeRoom 64 = .ok (.getfield 19, 3) := by decide +kernel
theorem dX9_makeRoom_67 : decode cX9_makeRoom 67 = .ok (.iload_n 1, 1) := by decide +kernel
theorem dX9_makeRoom_68 : decode cX9_makeRoom 68 = .ok (.iconst 3, 1) := by decide +kernel
theorem dX9_makeRoom_69 : decode cX9_makeRoom 69 = .ok (.isub, 1) := by decide +kernel
theorem dX9_makeRoom_70 : decode cX9_makeRoom 70 = .ok (.aload_n 0, 1) := by decide +kernel
theorem dX9_makeRoom_71 : decode cX9_makeRoom 71 = .ok (.getfield 19, 3) := by decide +kernel
theorem dX9_makeRoom_74 : decode cX9_makeRoom 74 = .ok (.iload_n 1, 1) := by decide +kernel
theorem dX9_makeRoom_75 : decode cX9_makeRoom 75 = .ok (.iconst 3, 1) := by decide +kernel
theorem dX9_makeRoom_76 : decode cX9_makeRoom 76 = .ok (.isub, 1) := by decide +kernel
theorem dX9_makeRoom_77 : decode cX9_makeRoom 77 = .ok (.invokevirtual 188, 3) := by decide +kernel
theorem dX9_makeRoom_80 : decode cX9_makeRoom 80 = .ok (.aload_n 0, 1) := by decide +kernel
theorem dX9_makeRoom_81 : decode cX9_makeRoom 81 = .ok (.getfield 185, 3) := by decide +kernel
theorem dX9_makeRoom_84 : decode cX9_makeRoom 84 = .ok (.iload 4, 2) := by decide +kernel
theorem dX9_makeRoom_86 : decode cX9_makeRoom 86 = .ok (.iadd, 1) := by decide +kernel
theorem dX9_makeRoom_87 : decode cX9_makeRoom 87 = .ok (.bipush 6, 2) := by decide +kernel
theorem dX9_makeRoom_89 : decode cX9_makeRoom 89 = .ok (.imul, 1) := by decide +kernel
theorem dX9_makeRoom_90 : decode cX9_makeRoom 90 = .ok (.invokestatic 192, 3) := by decide +kernel
theorem dX9_makeRoom_93 : decode cX9_makeRoom 93 = .ok (.invokevirtual 198, 3) := by decide +kernel
theorem dX9_makeRoom_96 : decode cX9_makeRoom 96 = .ok (.iload_n 1, 1) := by decide +kernel
theorem dX9_makeRoom_97 : decode cX9_makeRoom 97 = .ok (.iconst 1, 1) := by decide +kernel
theorem dX9_makeRoom_98 : decode cX9_makeRoom 98 = .ok (.if_icmp .ne 17, 3) := by decide +kernel
theorem dX9_makeRoom_101 : decode cX9_makeRoom 101 = .ok (.aload_n 0, 1) := by decide +kernel
theorem dX9_makeRoom_102 : decode cX9_makeRoom 102 = .ok (.getfield 19, 3) := by decide +kernel
theorem dX9_makeRoom_105 : decode cX9_makeRoom 105 = .ok (.iload 4, 2) := by decide +kernel
theorem dX9_makeRoom_107 : decode cX9_makeRoom 107 = .ok (.iconst 0, 1) := by decide +kernel
theorem dX9_makeRoom_108 : decode cX9_makeRoom 108 = .ok (.multianewarray 202 2, 4) := by decide +kernel
theorem dX9_makeRoom_112 : decode cX9_makeRoom 112 = .ok (.putfield 204, 3) := by decide +kernel
theorem dX9_makeRoom_115 : decode cX9_makeRoom 115 = .ok (.iload_n 1, 1) := by decide +kernel
theorem dX9_makeRoom_116 : decode cX9_makeRoom 116 = .ok (.iconst 2, 1) := by decide +kernel
theorem dX9_makeRoom_117 : decode cX9_makeRoom 117 = .ok (.if_icmp .ne 17, 3) := by decide +kernel
theorem dX9_makeRoom_120 : decode cX9_makeRoom 120 = .ok (.aload_n 0, 1) := by decide +kernel
theorem dX9_makeRoom_121 : decode cX9_makeRoom 121 = .ok (.getfield 19, 3) := by decide +kernel
theorem dX9_makeRoom_124 : decode cX9_makeRoom 124 = .ok (.iload 4, 2) := by decide +kernel
theorem dX9_makeRoom_126 : decode cX9_makeRoom 126 = .ok (.bipush 6, 2) := by decide +kernel
theorem dX9_makeRoom_128 : decode cX9_makeRoom 128 = .ok (.imul, 1) := by decide +kernel
theorem dX9_makeRoom_129 : decode cX9_makeRoom 129 = .ok (.newarray .long, 2) := by decide +kernel
theorem dX9_makeRoom_131 : decode cX9_makeRoom 131 = .ok (.putfield 207, 3) := by decide +kernel
theorem dX9_makeRoom_134 : decode cX9_makeRoom 134 = .ok (.iload_n 1, 1) := by decide +kernel
theorem dX9_makeRoom_135 : decode cX9_makeRoom 135 = .ok (.bipush 7, 2) := by decide +kernel
theorem dX9_makeRoom_137 : decode cX9_makeRoom 137 = .ok (.if_icmp .ne 16, 3) := by decide +kernel
theorem dX9_makeRoom_140 : decode cX9_makeRoom 140 = .ok (.aload_n 0, 1) := by decide +kernel
theorem dX9_makeRoom_141 : decode cX9_makeRoom 141 = .ok (.getfield 19, 3) := by decide +kernel
theorem dX9_makeRoom_144 : decode cX9_makeRoom 144 = .ok (.iload 4, 2) := by decide +kernel
theorem dX9_makeRoom_146 : decode cX9_makeRoom 146 = .ok (.iconst 4, 1) := by decide +kernel
theorem dX9_makeRoom_147 : decode cX9_makeRoom 147 = .ok (.imul, 1) := by decide +kernel
theorem dX9_makeRoom_148 : decode cX9_makeRoom 148 = .ok (.newarray .int, 2) := by decide +kernel
theorem dX9_makeRoom_150 : decode cX9_makeRoom 150 = .ok (.putfield 211, 3) := by decide +kernel
theorem dX9_makeRoom_153 : decode cX9_makeRoom 153 = .ok (.iload_n 1, 1) := by decide +kernel
theorem dX9_makeRoom_154 : decode cX9_makeRoom 154 = .ok (.bipush 9, 2) := by decide +kernel
theorem dX9_makeRoom_156 : decode cX9_makeRoom 156 = .ok (.if_icmp .ne 17, 3) := by decide +kernel
theorem dX9_makeRoom_159 : decode cX9_makeRoom 159 = .ok (.aload_n 0, 1) := by decide +kernel
theorem dX9_makeRoom_160 : decode cX9_makeRoom 160 = .ok (.getfield 19, 3) := by decide +kernel
theorem dX9_makeRoom_163 : decode cX9_makeRoom 163 = .ok (.iload 4, 2) := by decide +kernel
theorem dX9_makeRoom_165 : decode cX9_makeRoom 165 = .ok (.bipush 7, 2) := by decide +kernel
theorem dX9_makeRoom_167 : decode cX9_makeRoom 167 = .ok (.imul, 1) := by decide +kernel
theorem dX9_makeRoom_168 : decode cX9_makeRoom 168 = .ok (.newarray .int, 2) := by decide +kernel
theorem dX9_makeRoom_170 : decode cX9_makeRoom 170 = .ok (.putfield 214, 3) := by decide +kernel
theorem dX9_makeRoom_173 : decode cX9_makeRoom 173 = .ok (.iload_n 1, 1) := by decide +kernel
theorem dX9_makeRoom_174 : decode cX9_makeRoom 174 = .ok (.bipush 10, 2) := by decide +kernel
theorem dX9_makeRoom_176 : decode cX9_makeRoom 176 = .ok (.if_icmp .ne 16, 3) := by decide +kernel
theorem dX9_makeRoom_179 : decode cX9_makeRoom 179 = .ok (.aload_n 0, 1) := by decide +kernel
theorem dX9_makeRoom_180 : decode cX9_makeRoom 180 = .ok (.getfield 19, 3) := by decide +kernel
theorem dX9_makeRoom_183 : decode cX9_makeRoom 183 = .ok (.iload 4, 2) := by decide +kernel
theorem dX9_makeRoom_185 : decode cX9_makeRoom 185 = .ok (.iconst 2, 1) := by decide +kernel
theorem dX9_makeRoom_186 : decode cX9_makeRoom 186 = .ok (.imul, 1) := by decide +kernel
theorem dX9_makeRoom_187 : decode cX9_makeRoom 187 = .ok (.newarray .int, 2) := by decide +kernel
theorem dX9_makeRoom_189 : decode cX9_makeRoom 189 = .ok (.putfield 77, 3) := by decide +kernel
theorem dX9_makeRoom_192 : decode cX9_makeRoom 192 = .ok (.iload_n 1, 1) := by decide +kernel
theorem dX9_makeRoom_193 : decode cX9_makeRoom 193 = .ok (.bipush 11, 2) := by decide +kernel
theorem dX9_makeRoom_195 : decode cX9_makeRoom 195 = .ok (.if_icmp .ne 17, 3) := by decide +kernel
theorem dX9_makeRoom_198 : decode cX9_makeRoom 198 = .ok (.aload_n 0, 1) := by decide +kernel
theorem dX9_makeRoom_199 : decode cX9_makeRoom 199 = .ok (.getfield 19, 3) := by decide +kernel
theorem dX9_makeRoom_202 : decode cX9_makeRoom 202 = .ok (.iload 4, 2) := by decide +kernel
theorem dX9_makeRoom_204 : decode cX9_makeRoom 204 = .ok (.bipush 7, 2) := by decide +kernel
theorem dX9_makeRoom_206 : decode cX9_makeRoom 206 = .ok (.imul, 1) := by decide +kernel
theorem dX9_makeRoom_207 : decode cX9_makeRoom 207 = .ok (.newarray .int, 2) := by decide +kernel
theorem dX9_makeRoom_209 : decode cX9_makeRoom 209 = .ok (.putfield 84, 3) := by decide +kernel
theorem dX9_makeRoom_212 : decode cX9_makeRoom 212 = .ok (.return_, 1) := by decide +kernel
def fX9_makeRoom_b209 (h : pm_H) (s0 : Nat) (s1 : Nat) : Option pm_H := if pm_kd h s1 = 7 then some (pm_setR h s1 10 (some s0)) else none
def fX9_makeRoom_b189 (h : pm_H) (x0 : Nat) (x1 : Int32) (x4 : Int32) (s0 : Nat) (s1 : Nat) : Option pm_H := if pm_kd h s1 = 7 then if x1 = 11 then (if pm_kd (pm_setR h s1 11 (some s0)) x0 = 9 then (pm_R (pm_setR h s1 11 (some s0)) x0 0).bind fun v75 => pm_let (x4 * 7) fun y77 => if ¬ y77 < 0 ∧ y77.toNatClampNeg * 4 ≤ 536870912 then fX9_makeRoom_b209 (pm_new (pm_setR h s1 11 (some s0)) 34 y77.toNatClampNeg) (pm_sz (pm_setR h s1 11 (some s0))) v75 else none else none) else (some (pm_setR h s1 11 (some s0))) else none
def fX9_makeRoom_b170 (h : pm_H) (x0 : Nat) (x1 : Int32) (x4 : Int32) (s0 : Nat) (s1 : Nat) : Option pm_H := if pm_kd h s1 = 7 then if x1 = 10 then (if pm_kd (pm_setR h s1 9 (some s0)) x0 = 9 then (pm_R (pm_setR h s1 9 (some s0)) x0 0).bind fun v90 => pm_let (x4 * 2) fun y92 => if ¬ y92 < 0 ∧ y92.toNatClampNeg * 4 ≤ 536870912 then fX9_makeRoom_b189 (pm_new (pm_setR h s1 9 (some s0)) 34 y92.toNatClampNeg) x0 x1 x4 (pm_sz (pm_setR h s1 9 (some s0))) v90 else none else none) else (if x1 = 11 then (if pm_kd (pm_setR h s1 9 (some s0)) x0 = 9 then (pm_R (pm_setR h s1 9 (some s0)) x0 0).bind fun v84 => pm_let (x4 * 7) fun y86 => if ¬ y86 < 0 ∧ y86.toNatClampNeg * 4 ≤ 536870912 then fX9_makeRoom_b209 (pm_new (pm_setR h s1 9 (some s0)) 34 y86.toNatClampNeg) (pm_sz (pm_setR h s1 9 (some s0))) v84 else none else none) else (some (pm_setR h s1 9 (some s0)))) else none
def fX9_makeRoom_b153 (h : pm_H) (x0 : Nat) (x1 : Int32) (x4 : Int32) : Option pm_H := if x1 = 9 then (if pm_kd h x0 = 9 then (pm_R h x0 0).bind fun v65 => pm_let (x4 * 7) fun y67 => if ¬ y67 < 0 ∧ y67.toNatClampNeg * 4 ≤ 536870912 then fX9_makeRoom_b170 (pm_new h 34 y67.toNatClampNeg) x0 x1 x4 (pm_sz h) v65 else none else none) else (if x1 = 10 then (if pm_kd h x0 = 9 then (pm_R h x0 0).bind fun v59 => pm_let (x4 * 2) fun y61 => if ¬ y61 < 0 ∧ y61.toNatClampNeg * 4 ≤ 536870912 then fX9_makeRoom_b189 (pm_new h 34 y61.toNatClampNeg) x0 x1 x4 (pm_sz h) v59 else none else none) else (if x1 = 11 then (if pm_kd h x0 = 9 then (pm_R h x0 0).bind fun v53 => pm_let (x4 * 7) fun y55 => if ¬ y55 < 0 ∧ y55.toNatClampNeg * 4 ≤ 536870912 then fX9_makeRoom_b209 (pm_new h 34 y55.toNatClampNeg) (pm_sz h) v53 else none else none) else (some h)))
def fX9_makeRoom_b150 (h : pm_H) (x0 : Nat) (x1 : Int32) (x4 : Int32) (s0 : Nat) (s1 : Nat) : Option pm_H := if pm_kd h s1 = 7 then fX9_makeRoom_b153 (pm_setR h s1 8 (some s0)) x0 x1 x4 else none
def fX9_makeRoom_b134 (h : pm_H) (x0 : Nat) (x1 : Int32) (x4 : Int32) : Option pm_H := if x1 = 7 then (if pm_kd h x0 = 9 then (pm_R h x0 0).bind fun v43 => pm_let (x4 * 4) fun y45 => if ¬ y45 < 0 ∧ y45.toNatClampNeg * 4 ≤ 536870912 then fX9_makeRoom_b150 (pm_new h 34 y45.toNatClampNeg) x0 x1 x4 (pm_sz h) v43 else none else none) else (fX9_makeRoom_b153 h x0 x1 x4)
def fX9_makeRoom_b131 (h : pm_H) (x0 : Nat) (x1 : Int32) (x4 : Int32) (s0 : Nat) (s1 : Nat) : Option pm_H := if pm_kd h s1 = 7 then fX9_makeRoom_b134 (pm_setR h s1 3 (some s0)) x0 x1 x4 else none
def fX9_makeRoom_b115 (h : pm_H) (x0 : Nat) (x1 : Int32) (x4 : Int32) : Option pm_H := if x1 = 2 then (if pm_kd h x0 = 9 then (pm_R h x0 0).bind fun v35 => pm_let (x4 * 6) fun y37 => if ¬ y37 < 0 ∧ y37.toNatClampNeg * 8 ≤ 536870912 then fX9_makeRoom_b131 (pm_new h 35 y37.toNatClampNeg) x0 x1 x4 (pm_sz h) v35 else none else none) else (fX9_makeRoom_b134 h x0 x1 x4)
def fX9_makeRoom_b112 (h : pm_H) (x0 : Nat) (x1 : Int32) (x4 : Int32) (s0 : Nat) (s1 : Nat) : Option pm_H := if pm_kd h s1 = 7 then fX9_makeRoom_b115 (pm_setR h s1 2 (some s0)) x0 x1 x4 else none
def fX9_makeRoom_b96 (h : pm_H) (x0 : Nat) (x1 : Int32) (x4 : Int32) : Option pm_H := if x1 = 1 then (if pm_kd h x0 = 9 then (pm_R h x0 0).bind fun v26 => if ¬ x4 < 0 ∧ x4.toNatClampNeg * 4 ≤ 536870912 then fX9_makeRoom_b112 (pm_ma h 4 2 x4.toNatClampNeg x4.toNatClampNeg) x0 x1 x4 (pm_sz h) v26 else none else none) else (fX9_makeRoom_b115 h x0 x1 x4)
def fX9_makeRoom_b93 (h : pm_H) (x0 : Nat) (x1 : Int32) (x4 : Int32) (s0 : Nat) (s1 : Int32) (s2 : Nat) : Option pm_H := if pm_kd h s2 = 7 then (fX7_setSpace h s2 s1 s0).bind fun v30 => fX9_makeRoom_b96 v30 x0 x1 x4 else none
def fX9_makeRoom_b17 (h : pm_H) (x0 : Nat) (x1 : Int32) (x2 : Int64) : Option pm_H := if pm_kd h x0 = 9 then pm_let (((pm_I h x0 2) - (pm_I h x0 1)).toInt64) fun y7 => pm_let (if y7 < x2 then y7 else x2) fun y9 => pm_let (((if y9 < (0 : Int64) then (0 : Int64) else y9)).toInt32) fun y11 => if x1 < 3 then (fX9_makeRoom_b96 h x0 x1 y11) else (if 6 < x1 then (fX9_makeRoom_b96 h x0 x1 y11) else ((pm_R h x0 0).bind fun v15 => if pm_kd h v15 = 7 then (fX7_count h v15 (x1 - 3)).bind fun v18 => (fX7_space (pm_setI h x0 13 v18) v15 (x1 - 3)).bind fun v20 => (fJ7_copyOf_c38d5 (pm_setI h x0 13 v18) v20 (((pm_I (pm_setI h x0 13 v18) x0 13) + y11) * 6)).bind fun v22 => fX9_makeRoom_b93 v22.2 x0 x1 y11 v22.1 (x1 - 3) v15 else none)) else none
def fX9_makeRoom_b0 (h : pm_H) (x0 : Nat) (x1 : Int32) (x2 : Int64) : Option pm_H := if pm_kd h x0 = 9 then if x2 ≤ 64 then (fX9_makeRoom_b17 (pm_setL h x0 14 x2) x0 x1 x2) else ((fX9_exceedLimit (pm_setL h x0 14 x2) x0).bind fun v3 => fX9_makeRoom_b17 v3 x0 x1 x2) else none
def fX9_makeRoom (h : pm_H) (a0 : Nat) (p1 : Int32) (p2 : Int64) : Option pm_H := fX9_makeRoom_b0 h a0 p1 p2
set_option maxHeartbeats 4000000 in
set_option maxRecDepth 100000 in
theorem moX9_makeRoom_b209 {h : pm_H} {s0 : Nat} {s1 : Nat} {r : pm_H} (hf : fX9_makeRoom_b209 h s0 s1 = some r) : pm_Le h r := by
  unfold fX9_makeRoom_b209 at hf
  have K0 := pm_S3.rf h
  obtain ⟨k94, hf⟩ := pm_if hf
  have hf := Option.some.inj hf
  subst hf
  exact pm_S3.le (pm_S3R K0)
set_option maxHeartbeats 4000000 in
set_option maxRecDepth 100000 in
theorem moX9_makeRoom_b189 {h : pm_H} {x0 : Nat} {x1 : Int32} {x4 : Int32} {s0 : Nat} {s1 : Nat} {r : pm_H} (hf : fX9_makeRoom_b189 h x0 x1 x4 s0 s1 = some r) : pm_Le h r := by
  unfold fX9_makeRoom_b189 at hf
  have K0 := pm_S3.rf h
  obtain ⟨k86, hf⟩ := pm_if hf
  by_cases c87 : x1 = 11
  · have hf := pm_it hf c87
    obtain ⟨k88, hf⟩ := pm_if hf
    obtain ⟨v89, e90, hf⟩ := pm_bd hf
    obtain ⟨y91, e92, hf⟩ := pm_lt hf
    obtain ⟨u93, hf⟩ := pm_if hf
    exact ((pm_S3.le (pm_S3R K0)).trans (pm_Le_new _ _ _)).trans (moX9_makeRoom_b209 hf)
  · have hf := pm_ie hf c87
    have hf := Option.some.inj hf
    subst hf
    exact pm_S3.le (pm_S3R K0)
set_option maxHeartbeats 4000000 in
set_option maxRecDepth 100000 in
theorem moX9_makeRoom_b170 {h : pm_H} {x0 : Nat} {x1 : Int32} {x4 : Int32} {s0 : Nat} {s1 : Nat} {r : pm_H} (hf : fX9_makeRoom_b170 h x0 x1 x4 s0 s1 = some r) : pm_Le h r := by
  unfold fX9_makeRoom_b170 at hf
  have K0 := pm_S3.rf h
  obtain ⟨k71, hf⟩ := pm_if hf
  by_cases c72 : x1 = 10
  · have hf := pm_it hf c72
    obtain ⟨k73, hf⟩ := pm_if hf
    obtain ⟨v74, e75, hf⟩ := pm_bd hf
    obtain ⟨y76, e77, hf⟩ := pm_lt hf
    obtain ⟨u78, hf⟩ := pm_if hf
    exact ((pm_S3.le (pm_S3R K0)).trans (pm_Le_new _ _ _)).trans (moX9_makeRoom_b189 hf)
  · have hf := pm_ie hf c72
    by_cases c79 : x1 = 11
    · have hf := pm_it hf c79
      obtain ⟨k80, hf⟩ := pm_if hf
      obtain ⟨v81, e82, hf⟩ := pm_bd hf
      obtain ⟨y83, e84, hf⟩ := pm_lt hf
      obtain ⟨u85, hf⟩ := pm_if hf
      exact ((pm_S3.le (pm_S3R K0)).trans (pm_Le_new _ _ _)).trans (moX9_makeRoom_b209 hf)
    · have hf := pm_ie hf c79
      have hf := Option.some.inj hf
      subst hf
      exact pm_S3.le (pm_S3R K0)
set_option maxHeartbeats 4000000 in
set_option maxRecDepth 100000 in
theorem moX9_makeRoom_b153 {h : pm_H} {x0 : Nat} {x1 : Int32} {x4 : Int32} {r : pm_H} (hf : fX9_makeRoom_b153 h x0 x1 x4 = some r) : pm_Le h r := by
  unfold fX9_makeRoom_b153 at hf
  have K0 := pm_S3.rf h
  by_cases c50 : x1 = 9
  · have hf := pm_it hf c50
    obtain ⟨k51, hf⟩ := pm_if hf
    obtain ⟨v52, e53, hf⟩ := pm_bd hf
    obtain ⟨y54, e55, hf⟩ := pm_lt hf
    obtain ⟨u56, hf⟩ := pm_if hf
    exact ((pm_S3.le K0).trans (pm_Le_new _ _ _)).trans (moX9_makeRoom_b170 hf)
  · have hf := pm_ie hf c50
    by_cases c57 : x1 = 10
    · have hf := pm_it hf c57
      obtain ⟨k58, hf⟩ := pm_if hf
      obtain ⟨v59, e60, hf⟩ := pm_bd hf
      obtain ⟨y61, e62, hf⟩ := pm_lt hf
      obtain ⟨u63, hf⟩ := pm_if hf
      exact ((pm_S3.le K0).trans (pm_Le_new _ _ _)).trans (moX9_makeRoom_b189 hf)
    · have hf := pm_ie hf c57
      by_cases c64 : x1 = 11
      · have hf := pm_it hf c64
        obtain ⟨k65, hf⟩ := pm_if hf
        obtain ⟨v66, e67, hf⟩ := pm_bd hf
        obtain ⟨y68, e69, hf⟩ := pm_lt hf
        obtain ⟨u70, hf⟩ := pm_if hf
        exact ((pm_S3.le K0).trans (pm_Le_new _ _ _)).trans (moX9_makeRoom_b209 hf)
      · have hf := pm_ie hf c64
        have hf := Option.some.inj hf
        subst hf
        exact pm_S3.le K0
set_option maxHeartbeats 4000000 in
set_option maxRecDepth 100000 in
theorem moX9_makeRoom_b150 {h : pm_H} {x0 : Nat} {x1 : Int32} {x4 : Int32} {s0 : Nat} {s1 : Nat} {r : pm_H} (hf : fX9_makeRoom_b150 h x0 x1 x4 s0 s1 = some r) : pm_Le h r := by
  unfold fX9_makeRoom_b150 at hf
  have K0 := pm_S3.rf h
  obtain ⟨k49, hf⟩ := pm_if hf
  exact (pm_S3.le (pm_S3R K0)).trans (moX9_makeRoom_b153 hf)
set_option maxHeartbeats 4000000 in
set_option maxRecDepth 100000 in
theorem moX9_makeRoom_b134 {h : pm_H} {x0 : Nat} {x1 : Int32} {x4 : Int32} {r : pm_H} (hf : fX9_makeRoom_b134 h x0 x1 x4 = some r) : pm_Le h r := by
  unfold fX9_makeRoom_b134 at hf
  have K0 := pm_S3.rf h
  by_cases c42 : x1 = 7
  · have hf := pm_it hf c42
    obtain ⟨k43, hf⟩ := pm_if hf
    obtain ⟨v44, e45, hf⟩ := pm_bd hf
    obtain ⟨y46, e47, hf⟩ := pm_lt hf
    obtain ⟨u48, hf⟩ := pm_if hf
    exact ((pm_S3.le K0).trans (pm_Le_new _ _ _)).trans (moX9_makeRoom_b150 hf)
  · have hf := pm_ie hf c42
    exact (pm_S3.le K0).trans (moX9_makeRoom_b153 hf)
set_option maxHeartbeats 4000000 in
set_option maxRecDepth 100000 in
theorem moX9_makeRoom_b131 {h : pm_H} {x0 : Nat} {x1 : Int32} {x4 : Int32} {s0 : Nat} {s1 : Nat} {r : pm_H} (hf : fX9_makeRoom_b131 h x0 x1 x4 s0 s1 = some r) : pm_Le h r := by
  unfold fX9_makeRoom_b131 at hf
  have K0 := pm_S3.rf h
  obtain ⟨k41, hf⟩ := pm_if hf
  exact (pm_S3.le (pm_S3R K0)).trans (moX9_makeRoom_b134 hf)
set_option maxHeartbeats 4000000 in
set_option maxRecDepth 100000 in
theorem moX9_makeRoom_b115 {h : pm_H} {x0 : Nat} {x1 : Int32} {x4 : Int32} {r : pm_H} (hf : fX9_makeRoom_b115 h x0 x1 x4 = some r) : pm_Le h r := by
  unfold fX9_makeRoom_b115 at hf
  have K0 := pm_S3.rf h
  by_cases c34 : x1 = 2
  · have hf := pm_it hf c34
    obtain ⟨k35, hf⟩ := pm_if hf
    obtain ⟨v36, e37, hf⟩ := pm_bd hf
    obtain ⟨y38, e39, hf⟩ := pm_lt hf
    obtain ⟨u40, hf⟩ := pm_if hf
    exact ((pm_S3.le K0).trans (pm_Le_new _ _ _)).trans (moX9_makeRoom_b131 hf)
  · have hf := pm_ie hf c34
    exact (pm_S3.le K0).trans (moX9_makeRoom_b134 hf)
set_option maxHeartbeats 4000000 in
set_option maxRecDepth 100000 in
theorem moX9_makeRoom_b112 {h : pm_H} {x0 : Nat} {x1 : Int32} {x4 : Int32} {s0 : Nat} {s1 : Nat} {r : pm_H} (hf : fX9_makeRoom_b112 h x0 x1 x4 s0 s1 = some r) : pm_Le h r := by
  unfold fX9_makeRoom_b112 at hf
  have K0 := pm_S3.rf h
  obtain ⟨k33, hf⟩ := pm_if hf
  exact (pm_S3.le (pm_S3R K0)).trans (moX9_makeRoom_b115 hf)
set_option maxHeartbeats 4000000 in
set_option maxRecDepth 100000 in
theorem moX9_makeRoom_b96 {h : pm_H} {x0 : Nat} {x1 : Int32} {x4 : Int32} {r : pm_H} (hf : fX9_makeRoom_b96 h x0 x1 x4 = some r) : pm_Le h r := by
  unfold fX9_makeRoom_b96 at hf
  have K0 := pm_S3.rf h
  by_cases c24 : x1 = 1
  · have hf := pm_it hf c24
    obtain ⟨k25, hf⟩ := pm_if hf
    obtain ⟨v26, e27, hf⟩ := pm_bd hf
    obtain ⟨u28, hf⟩ := pm_if hf
    exact ((pm_S3.le K0).trans (pm_Le_ma _ _ _ _ _)).trans (moX9_makeRoom_b112 hf)
  · have hf := pm_ie hf c24
    exact (pm_S3.le K0).trans (moX9_makeRoom_b115 hf)
set_option maxHeartbeats 4000000 in
set_option maxRecDepth 100000 in
theorem moX9_makeRoom_b93 {h : pm_H} {x0 : Nat} {x1 : Int32} {x4 : Int32} {s0 : Nat} {s1 : Int32} {s2 : Nat} {r : pm_H} (hf : fX9_makeRoom_b93 h x0 x1 x4 s0 s1 s2 = some r) : pm_Le h r := by
  unfold fX9_makeRoom_b93 at hf
  have K0 := pm_S3.rf h
  obtain ⟨k29, hf⟩ := pm_if hf
  obtain ⟨v30, e31, hf⟩ := pm_bd hf
  have K32 := pm_S3.trans (kpX7_setSpace e31) K0
  exact (pm_S3.le K32).trans (moX9_makeRoom_b96 hf)
set_option maxHeartbeats 4000000 in
set_option maxRecDepth 100000 in
theorem moX9_makeRoom_b17 {h : pm_H} {x0 : Nat} {x1 : Int32} {x2 : Int64} {r : pm_H} (hf : fX9_makeRoom_b17 h x0 x1 x2 = some r) : pm_Le h r := by
  unfold fX9_makeRoom_b17 at hf
  have K0 := pm_S3.rf h
  obtain ⟨k6, hf⟩ := pm_if hf
  obtain ⟨y7, e8, hf⟩ := pm_lt hf
  obtain ⟨y9, e10, hf⟩ := pm_lt hf
  obtain ⟨y11, e12, hf⟩ := pm_lt hf
  by_cases c13 : x1 < 3
  · have hf := pm_it hf c13
    exact (pm_S3.le K0).trans (moX9_makeRoom_b96 hf)
  · have hf := pm_ie hf c13
    by_cases c14 : 6 < x1
    · have hf := pm_it hf c14
      exact (pm_S3.le K0).trans (moX9_makeRoom_b96 hf)
    · have hf := pm_ie hf c14
      obtain ⟨v15, e16, hf⟩ := pm_bd hf
      obtain ⟨k17, hf⟩ := pm_if hf
      obtain ⟨v18, e19, hf⟩ := pm_bd hf
      obtain ⟨v20, e21, hf⟩ := pm_bd hf
      obtain ⟨v22, e23, hf⟩ := pm_bd hf
      exact ((pm_S3.le (pm_S3I K0)).trans (moJ7_copyOf_c38d5 e23)).trans (moX9_makeRoom_b93 hf)
set_option maxHeartbeats 4000000 in
set_option maxRecDepth 100000 in
theorem moX9_makeRoom_b0 {h : pm_H} {x0 : Nat} {x1 : Int32} {x2 : Int64} {r : pm_H} (hf : fX9_makeRoom_b0 h x0 x1 x2 = some r) : pm_Le h r := by
  unfold fX9_makeRoom_b0 at hf
  have K0 := pm_S3.rf h
  obtain ⟨k1, hf⟩ := pm_if hf
  by_cases c2 : x2 ≤ 64
  · have hf := pm_it hf c2
    exact (pm_S3.le (pm_S3L K0)).trans (moX9_makeRoom_b17 hf)
  · have hf := pm_ie hf c2
    obtain ⟨v3, e4, hf⟩ := pm_bd hf
    have K5 := pm_S3.trans (kpX9_exceedLimit e4) (pm_S3L K0)
    exact (pm_S3.le K5).trans (moX9_makeRoom_b17 hf)
set_option maxHeartbeats 4000000 in
set_option maxRecDepth 100000 in
theorem moX9_makeRoom {h : pm_H} {a0 : Nat} {p1 : Int32} {p2 : Int64} {r : pm_H} (hf : fX9_makeRoom h a0 p1 p2 = some r) : pm_Le h r := by
  unfold fX9_makeRoom at hf
  have K0 := pm_S3.rf h
  exact (pm_S3.le K0).trans (moX9_makeRoom_b0 hf)
set_option maxHeartbeats 4000000 in
set_option maxRecDepth 100000 in
theorem bX9_makeRoom_209 {g : pm_Gm} {l : Launch} {G : pm_Gl} {Qr : Option Value → pm_H → Prop} (C : pm_C g cX9_makeRoom RX9) {h0 h : pm_H} {s0 : Nat} {s1 : Nat} {r : pm_H} (X : pm_X g l G mX9_makeRoom (pm_sz r - pm_sz h0) (pm_us r - pm_us h0) Qr) (m0 : pm_Le h0 h) (hf : fX9_makeRoom_b209 h s0 s1 = some r) (q : Qr none r) : pm_G g 209 [] [.ref s0, .ref s1] h (pm_sz h - pm_sz h0) (pm_us h - pm_us h0) := by
  have le0 := moX9_makeRoom_b209 hf
  have kc1 := Nat.sub_le_sub_right le0.1 (pm_sz h0)
  have kc2 := Nat.sub_le_sub_right le0.2 (pm_us h0)
  have K0 := pm_S3.rf h
  unfold fX9_makeRoom_b209 at hf
  obtain ⟨k71, hf⟩ := pm_if hf
  refine pm_putR C dX9_makeRoom_209 flX9_84 rfl rfl k71 ?_
  have hf := Option.some.inj hf
  subst hf
  exact pm_vret C X dX9_makeRoom_212 rfl kc1 kc2 q
set_option maxHeartbeats 4000000 in
set_option maxRecDepth 100000 in
theorem bX9_makeRoom_189 {g : pm_Gm} {l : Launch} {G : pm_Gl} {Qr : Option Value → pm_H → Prop} (C : pm_C g cX9_makeRoom RX9) {h0 h : pm_H} {x0 : Nat} {x1 : Int32} {x4 : Int32} {s0 : Nat} {s1 : Nat} {r : pm_H} (X : pm_X g l G mX9_makeRoom (pm_sz r - pm_sz h0) (pm_us r - pm_us h0) Qr) (m0 : pm_Le h0 h) (hf : fX9_makeRoom_b189 h x0 x1 x4 s0 s1 = some r) (q : Qr none r) : pm_G g 189 [(0, .ref x0), (1, .int x1), (4, .int x4)] [.ref s0, .ref s1] h (pm_sz h - pm_sz h0) (pm_us h - pm_us h0) := by
  have le0 := moX9_makeRoom_b189 hf
  have kc1 := Nat.sub_le_sub_right le0.1 (pm_sz h0)
  have kc2 := Nat.sub_le_sub_right le0.2 (pm_us h0)
  have K0 := pm_S3.rf h
  unfold fX9_makeRoom_b189 at hf
  obtain ⟨k72, hf⟩ := pm_if hf
  refine pm_putR C dX9_makeRoom_189 flX9_77 rfl rfl k72 ?_
  refine pm_iload_n C dX9_makeRoom_192 rfl rfl ?_
  refine pm_bipush (v := 11) C dX9_makeRoom_193 (by decide) ?_
  refine pm_icmp_ne (tgt := 212) C dX9_makeRoom_195 (by decide) (fun c73 => ?_) (fun c73 => ?_)
  · have hf := pm_ie hf c73
    have hf := Option.some.inj hf
    subst hf
    exact pm_vret C X dX9_makeRoom_212 rfl kc1 kc2 q
  · have hf := pm_it hf c73
    refine pm_aload_n C dX9_makeRoom_198 rfl rfl ?_
    obtain ⟨k74, hf⟩ := pm_if hf
    obtain ⟨v75, e76, hf⟩ := pm_bd hf
    refine pm_getR C dX9_makeRoom_199 flX9_19 rfl k74 e76 ?_
    refine pm_iload C dX9_makeRoom_202 rfl ?_
    refine pm_bipush (v := 7) C dX9_makeRoom_204 (by decide) ?_
    refine pm_imul C dX9_makeRoom_206 ?_
    obtain ⟨y77, e78, hf⟩ := pm_lt hf
    refine pm_topI e78 ?_
    obtain ⟨u79, hf⟩ := pm_if hf
    refine pa_newa (hb := h) (h0 := h0) (t := 2) (N := y77.toNatClampNeg) C X (pm_S3R K0) m0 dX9_makeRoom_207 (by decide) rfl al2 u79.1 rfl u79.2 (moX9_makeRoom_b209 hf) ?_
    exact pm_sub [] rfl (bX9_makeRoom_209 C X ((m0.trans (pm_S3.le (pm_S3R K0))).trans (pm_Le_new _ _ _)) hf q)
set_option maxHeartbeats 4000000 in
set_option maxRecDepth 100000 in
theorem bX9_makeRoom_170 {g : pm_Gm} {l : Launch} {G : pm_Gl} {Qr : Option Value → pm_H → Prop} (C : pm_C g cX9_makeRoom RX9) {h0 h : pm_H} {x0 : Nat} {x1 : Int32} {x4 : Int32} {s0 : Nat} {s1 : Nat} {r : pm_H} (X : pm_X g l G mX9_makeRoom (pm_sz r - pm_sz h0) (pm_us r - pm_us h0) Qr) (m0 : pm_Le h0 h) (hf : fX9_makeRoom_b170 h x0 x1 x4 s0 s1 = some r) (q : Qr none r) : pm_G g 170 [(0, .ref x0), (1, .int x1), (4, .int x4)] [.ref s0, .ref s1] h (pm_sz h - pm_sz h0) (pm_us h - pm_us h0) := by
  have le0 := moX9_makeRoom_b170 hf
  have kc1 := Nat.sub_le_sub_right le0.1 (pm_sz h0)
  have kc2 := Nat.sub_le_sub_right le0.2 (pm_us h0)
  have K0 := pm_S3.rf h
  unfold fX9_makeRoom_b170 at hf
  obtain ⟨k80, hf⟩ := pm_if hf
  refine pm_putR C dX9_makeRoom_170 flX9_214 rfl rfl k80 ?_
  refine pm_iload_n C dX9_makeRoom_173 rfl rfl ?_
  refine pm_bipush (v := 10) C dX9_makeRoom_174 (by decide) ?_
  refine pm_icmp_ne (tgt := 192) C dX9_makeRoom_176 (by decide) (fun c81 => ?_) (fun c81 => ?_)
  · have hf := pm_ie hf c81
    refine pm_iload_n C dX9_makeRoom_192 rfl rfl ?_
    refine pm_bipush (v := 11) C dX9_makeRoom_193 (by decide) ?_
    refine pm_icmp_ne (tgt := 212) C dX9_makeRoom_195 (by decide) (fun c82 => ?_) (fun c82 => ?_)
    · have hf := pm_ie hf c82
      have hf := Option.some.inj hf
      subst hf
      exact pm_vret C X dX9_makeRoom_212 rfl kc1 kc2 q
    · have hf := pm_it hf c82
      refine pm_aload_n C dX9_makeRoom_198 rfl rfl ?_
      obtain ⟨k83, hf⟩ := pm_if hf
      obtain ⟨v84, e85, hf⟩ := pm_bd hf
      refine pm_getR C dX9_makeRoom_199 flX9_19 rfl k83 e85 ?_
      refine pm_iload C dX9_makeRoom_202 rfl ?_
      refine pm_bipush (v := 7) C dX9_makeRoom_204 (by decide) ?_
      refine pm_imul C dX9_makeRoom_206 ?_
      obtain ⟨y86, e87, hf⟩ := pm_lt hf
      refine pm_topI e87 ?_
      obtain ⟨u88, hf⟩ := pm_if hf
      refine pa_newa (hb := h) (h0 := h0) (t := 2) (N := y86.toNatClampNeg) C X (pm_S3R K0) m0 dX9_makeRoom_207 (by decide) rfl al2 u88.1 rfl u88.2 (moX9_makeRoom_b209 hf) ?_
      exact pm_sub [] rfl (bX9_makeRoom_209 C X ((m0.trans (pm_S3.le (pm_S3R K0))).trans (pm_Le_new _ _ _)) hf q)
  · have hf := pm_it hf c81
    refine pm_aload_n C dX9_makeRoom_179 rfl rfl ?_
    obtain ⟨k89, hf⟩ := pm_if hf
    obtain ⟨v90, e91, hf⟩ := pm_bd hf
    refine pm_getR C dX9_makeRoom_180 flX9_19 rfl k89 e91 ?_
    refine pm_iload C dX9_makeRoom_183 rfl ?_
    refine pm_iconst (v := 2) C dX9_makeRoom_185 (by decide) ?_
    refine pm_imul C dX9_makeRoom_186 ?_
    obtain ⟨y92, e93, hf⟩ := pm_lt hf
    refine pm_topI e93 ?_
    obtain ⟨u94, hf⟩ := pm_if hf
    refine pa_newa (hb := h) (h0 := h0) (t := 2) (N := y92.toNatClampNeg) C X (pm_S3R K0) m0 dX9_makeRoom_187 (by decide) rfl al2 u94.1 rfl u94.2 (moX9_makeRoom_b189 hf) ?_
    exact pm_sub [0, 1, 2] rfl (bX9_makeRoom_189 C X ((m0.trans (pm_S3.le (pm_S3R K0))).trans (pm_Le_new _ _ _)) hf q)
set_option maxHeartbeats 4000000 in
set_option maxRecDepth 100000 in
theorem bX9_makeRoom_153 {g : pm_Gm} {l : Launch} {G : pm_Gl} {Qr : Option Value → pm_H → Prop} (C : pm_C g cX9_makeRoom RX9) {h0 h : pm_H} {x0 : Nat} {x1 : Int32} {x4 : Int32} {r : pm_H} (X : pm_X g l G mX9_makeRoom (pm_sz r - pm_sz h0) (pm_us r - pm_us h0) Qr) (m0 : pm_Le h0 h) (hf : fX9_makeRoom_b153 h x0 x1 x4 = some r) (q : Qr none r) : pm_G g 153 [(0, .ref x0), (1, .int x1), (4, .int x4)] [] h (pm_sz h - pm_sz h0) (pm_us h - pm_us h0) := by
  have le0 := moX9_makeRoom_b153 hf
  have kc1 := Nat.sub_le_sub_right le0.1 (pm_sz h0)
  have kc2 := Nat.sub_le_sub_right le0.2 (pm_us h0)
  have K0 := pm_S3.rf h
  unfold fX9_makeRoom_b153 at hf
  refine pm_iload_n C dX9_makeRoom_153 rfl rfl ?_
  refine pm_bipush (v := 9) C dX9_makeRoom_154 (by decide) ?_
  refine pm_icmp_ne (tgt := 173) C dX9_makeRoom_156 (by decide) (fun c49 => ?_) (fun c49 => ?_)
  · have hf := pm_ie hf c49
    refine pm_iload_n C dX9_makeRoom_173 rfl rfl ?_
    refine pm_bipush (v := 10) C dX9_makeRoom_174 (by decide) ?_
    refine pm_icmp_ne (tgt := 192) C dX9_makeRoom_176 (by decide) (fun c50 => ?_) (fun c50 => ?_)
    · have hf := pm_ie hf c50
      refine pm_iload_n C dX9_makeRoom_192 rfl rfl ?_
      refine pm_bipush (v := 11) C dX9_makeRoom_193 (by decide) ?_
      refine pm_icmp_ne (tgt := 212) C dX9_makeRoom_195 (by decide) (fun c51 => ?_) (fun c51 => ?_)
      · have hf := pm_ie hf c51
        have hf := Option.some.inj hf
        subst hf
        exact pm_vret C X dX9_makeRoom_212 rfl kc1 kc2 q
      · have hf := pm_it hf c51
        refine pm_aload_n C dX9_makeRoom_198 rfl rfl ?_
        obtain ⟨k52, hf⟩ := pm_if hf
        obtain ⟨v53, e54, hf⟩ := pm_bd hf
        refine pm_getR C dX9_makeRoom_199 flX9_19 rfl k52 e54 ?_
        refine pm_iload C dX9_makeRoom_202 rfl ?_
        refine pm_bipush (v := 7) C dX9_makeRoom_204 (by decide) ?_
        refine pm_imul C dX9_makeRoom_206 ?_
        obtain ⟨y55, e56, hf⟩ := pm_lt hf
        refine pm_topI e56 ?_
        obtain ⟨u57, hf⟩ := pm_if hf
        refine pa_newa (hb := h) (h0 := h0) (t := 2) (N := y55.toNatClampNeg) C X K0 m0 dX9_makeRoom_207 (by decide) rfl al2 u57.1 rfl u57.2 (moX9_makeRoom_b209 hf) ?_
        exact pm_sub [] rfl (bX9_makeRoom_209 C X ((m0.trans (pm_S3.le K0)).trans (pm_Le_new _ _ _)) hf q)
    · have hf := pm_it hf c50
      refine pm_aload_n C dX9_makeRoom_179 rfl rfl ?_
      obtain ⟨k58, hf⟩ := pm_if hf
      obtain ⟨v59, e60, hf⟩ := pm_bd hf
      refine pm_getR C dX9_makeRoom_180 flX9_19 rfl k58 e60 ?_
      refine pm_iload C dX9_makeRoom_183 rfl ?_
      refine pm_iconst (v := 2) C dX9_makeRoom_185 (by decide) ?_
      refine pm_imul C dX9_makeRoom_186 ?_
      obtain ⟨y61, e62, hf⟩ := pm_lt hf
      refine pm_topI e62 ?_
      obtain ⟨u63, hf⟩ := pm_if hf
      refine pa_newa (hb := h) (h0 := h0) (t := 2) (N := y61.toNatClampNeg) C X K0 m0 dX9_makeRoom_187 (by decide) rfl al2 u63.1 rfl u63.2 (moX9_makeRoom_b189 hf) ?_
      exact pm_sub [0, 1, 2] rfl (bX9_makeRoom_189 C X ((m0.trans (pm_S3.le K0)).trans (pm_Le_new _ _ _)) hf q)
  · have hf := pm_it hf c49
    refine pm_aload_n C dX9_makeRoom_159 rfl rfl ?_
    obtain ⟨k64, hf⟩ := pm_if hf
    obtain ⟨v65, e66, hf⟩ := pm_bd hf
    refine pm_getR C dX9_makeRoom_160 flX9_19 rfl k64 e66 ?_
    refine pm_iload C dX9_makeRoom_163 rfl ?_
    refine pm_bipush (v := 7) C dX9_makeRoom_165 (by decide) ?_
    refine pm_imul C dX9_makeRoom_167 ?_
    obtain ⟨y67, e68, hf⟩ := pm_lt hf
    refine pm_topI e68 ?_
    obtain ⟨u69, hf⟩ := pm_if hf
    refine pa_newa (hb := h) (h0 := h0) (t := 2) (N := y67.toNatClampNeg) C X K0 m0 dX9_makeRoom_168 (by decide) rfl al2 u69.1 rfl u69.2 (moX9_makeRoom_b170 hf) ?_
    exact pm_sub [0, 1, 2] rfl (bX9_makeRoom_170 C X ((m0.trans (pm_S3.le K0)).trans (pm_Le_new _ _ _)) hf q)
set_option maxHeartbeats 4000000 in
set_option maxRecDepth 100000 in
theorem bX9_makeRoom_150 {g : pm_Gm} {l : Launch} {G : pm_Gl} {Qr : Option Value → pm_H → Prop} (C : pm_C g cX9_makeRoom RX9) {h0 h : pm_H} {x0 : Nat} {x1 : Int32} {x4 : Int32} {s0 : Nat} {s1 : Nat} {r : pm_H} (X : pm_X g l G mX9_makeRoom (pm_sz r - pm_sz h0) (pm_us r - pm_us h0) Qr) (m0 : pm_Le h0 h) (hf : fX9_makeRoom_b150 h x0 x1 x4 s0 s1 = some r) (q : Qr none r) : pm_G g 150 [(0, .ref x0), (1, .int x1), (4, .int x4)] [.ref s0, .ref s1] h (pm_sz h - pm_sz h0) (pm_us h - pm_us h0) := by
  have le0 := moX9_makeRoom_b150 hf
  have kc1 := Nat.sub_le_sub_right le0.1 (pm_sz h0)
  have kc2 := Nat.sub_le_sub_right le0.2 (pm_us h0)
  have K0 := pm_S3.rf h
  unfold fX9_makeRoom_b150 at hf
  obtain ⟨k70, hf⟩ := pm_if hf
  refine pm_putR C dX9_makeRoom_150 flX9_211 rfl rfl k70 ?_
  exact pa_join (pm_S3R K0) (pm_sub [0, 1, 2] rfl (bX9_makeRoom_153 C X (m0.trans (pm_S3.le (pm_S3R K0))) hf q))
set_option maxHeartbeats 4000000 in
set_option maxRecDepth 100000 in
theorem bX9_makeRoom_134 {g : pm_Gm} {l : Launch} {G : pm_Gl} {Qr : Option Value → pm_H → Prop} (C : pm_C g cX9_makeRoom RX9) {h0 h : pm_H} {x0 : Nat} {x1 : Int32} {x4 : Int32} {r : pm_H} (X : pm_X g l G mX9_makeRoom (pm_sz r - pm_sz h0) (pm_us r - pm_us h0) Qr) (m0 : pm_Le h0 h) (hf : fX9_makeRoom_b134 h x0 x1 x4 = some r) (q : Qr none r) : pm_G g 134 [(0, .ref x0), (1, .int x1), (4, .int x4)] [] h (pm_sz h - pm_sz h0) (pm_us h - pm_us h0) := by
  have le0 := moX9_makeRoom_b134 hf
  have kc1 := Nat.sub_le_sub_right le0.1 (pm_sz h0)
  have kc2 := Nat.sub_le_sub_right le0.2 (pm_us h0)
  have K0 := pm_S3.rf h
  unfold fX9_makeRoom_b134 at hf
  refine pm_iload_n C dX9_makeRoom_134 rfl rfl ?_
  refine pm_bipush (v := 7) C dX9_makeRoom_135 (by decide) ?_
  refine pm_icmp_ne (tgt := 153) C dX9_makeRoom_137 (by decide) (fun c41 => ?_) (fun c41 => ?_)
  · have hf := pm_ie hf c41
    exact pa_join K0 (pm_sub [0, 1, 2] rfl (bX9_makeRoom_153 C X (m0.trans (pm_S3.le K0)) hf q))
  · have hf := pm_it hf c41
    refine pm_aload_n C dX9_makeRoom_140 rfl rfl ?_
    obtain ⟨k42, hf⟩ := pm_if hf
    obtain ⟨v43, e44, hf⟩ := pm_bd hf
    refine pm_getR C dX9_makeRoom_141 flX9_19 rfl k42 e44 ?_
    refine pm_iload C dX9_makeRoom_144 rfl ?_
    refine pm_iconst (v := 4) C dX9_makeRoom_146 (by decide) ?_
    refine pm_imul C dX9_makeRoom_147 ?_
    obtain ⟨y45, e46, hf⟩ := pm_lt hf
    refine pm_topI e46 ?_
    obtain ⟨u47, hf⟩ := pm_if hf
    refine pa_newa (hb := h) (h0 := h0) (t := 2) (N := y45.toNatClampNeg) C X K0 m0 dX9_makeRoom_148 (by decide) rfl al2 u47.1 rfl u47.2 (moX9_makeRoom_b150 hf) ?_
    exact pm_sub [0, 1, 2] rfl (bX9_makeRoom_150 C X ((m0.trans (pm_S3.le K0)).trans (pm_Le_new _ _ _)) hf q)
set_option maxHeartbeats 4000000 in
set_option maxRecDepth 100000 in
theorem bX9_makeRoom_131 {g : pm_Gm} {l : Launch} {G : pm_Gl} {Qr : Option Value → pm_H → Prop} (C : pm_C g cX9_makeRoom RX9) {h0 h : pm_H} {x0 : Nat} {x1 : Int32} {x4 : Int32} {s0 : Nat} {s1 : Nat} {r : pm_H} (X : pm_X g l G mX9_makeRoom (pm_sz r - pm_sz h0) (pm_us r - pm_us h0) Qr) (m0 : pm_Le h0 h) (hf : fX9_makeRoom_b131 h x0 x1 x4 s0 s1 = some r) (q : Qr none r) : pm_G g 131 [(0, .ref x0), (1, .int x1), (4, .int x4)] [.ref s0, .ref s1] h (pm_sz h - pm_sz h0) (pm_us h - pm_us h0) := by
  have le0 := moX9_makeRoom_b131 hf
  have kc1 := Nat.sub_le_sub_right le0.1 (pm_sz h0)
  have kc2 := Nat.sub_le_sub_right le0.2 (pm_us h0)
  have K0 := pm_S3.rf h
  unfold fX9_makeRoom_b131 at hf
  obtain ⟨k48, hf⟩ := pm_if hf
  refine pm_putR C dX9_makeRoom_131 flX9_207 rfl rfl k48 ?_
  exact pa_join (pm_S3R K0) (pm_sub [0, 1, 2] rfl (bX9_makeRoom_134 C X (m0.trans (pm_S3.le (pm_S3R K0))) hf q))
set_option maxHeartbeats 4000000 in
set_option maxRecDepth 100000 in
theorem bX9_makeRoom_115 {g : pm_Gm} {l : Launch} {G : pm_Gl} {Qr : Option Value → pm_H → Prop} (C : pm_C g cX9_makeRoom RX9) {h0 h : pm_H} {x0 : Nat} {x1 : Int32} {x4 : Int32} {r : pm_H} (X : pm_X g l G mX9_makeRoom (pm_sz r - pm_sz h0) (pm_us r - pm_us h0) Qr) (m0 : pm_Le h0 h) (hf : fX9_makeRoom_b115 h x0 x1 x4 = some r) (q : Qr none r) : pm_G g 115 [(0, .ref x0), (1, .int x1), (4, .int x4)] [] h (pm_sz h - pm_sz h0) (pm_us h - pm_us h0) := by
  have le0 := moX9_makeRoom_b115 hf
  have kc1 := Nat.sub_le_sub_right le0.1 (pm_sz h0)
  have kc2 := Nat.sub_le_sub_right le0.2 (pm_us h0)
  have K0 := pm_S3.rf h
  unfold fX9_makeRoom_b115 at hf
  refine pm_iload_n C dX9_makeRoom_115 rfl rfl ?_
  refine pm_iconst (v := 2) C dX9_makeRoom_116 (by decide) ?_
  refine pm_icmp_ne (tgt := 134) C dX9_makeRoom_117 (by decide) (fun c33 => ?_) (fun c33 => ?_)
  · have hf := pm_ie hf c33
    exact pa_join K0 (pm_sub [0, 1, 2] rfl (bX9_makeRoom_134 C X (m0.trans (pm_S3.le K0)) hf q))
  · have hf := pm_it hf c33
    refine pm_aload_n C dX9_makeRoom_120 rfl rfl ?_
    obtain ⟨k34, hf⟩ := pm_if hf
    obtain ⟨v35, e36, hf⟩ := pm_bd hf
    refine pm_getR C dX9_makeRoom_121 flX9_19 rfl k34 e36 ?_
    refine pm_iload C dX9_makeRoom_124 rfl ?_
    refine pm_bipush (v := 6) C dX9_makeRoom_126 (by decide) ?_
    refine pm_imul C dX9_makeRoom_128 ?_
    obtain ⟨y37, e38, hf⟩ := pm_lt hf
    refine pm_topI e38 ?_
    obtain ⟨u39, hf⟩ := pm_if hf
    refine pa_newa (hb := h) (h0 := h0) (t := 3) (N := y37.toNatClampNeg) C X K0 m0 dX9_makeRoom_129 (by decide) rfl al3 u39.1 rfl u39.2 (moX9_makeRoom_b131 hf) ?_
    exact pm_sub [0, 1, 2] rfl (bX9_makeRoom_131 C X ((m0.trans (pm_S3.le K0)).trans (pm_Le_new _ _ _)) hf q)
set_option maxHeartbeats 4000000 in
set_option maxRecDepth 100000 in
theorem bX9_makeRoom_112 {g : pm_Gm} {l : Launch} {G : pm_Gl} {Qr : Option Value → pm_H → Prop} (C : pm_C g cX9_makeRoom RX9) {h0 h : pm_H} {x0 : Nat} {x1 : Int32} {x4 : Int32} {s0 : Nat} {s1 : Nat} {r : pm_H} (X : pm_X g l G mX9_makeRoom (pm_sz r - pm_sz h0) (pm_us r - pm_us h0) Qr) (m0 : pm_Le h0 h) (hf : fX9_makeRoom_b112 h x0 x1 x4 s0 s1 = some r) (q : Qr none r) : pm_G g 112 [(0, .ref x0), (1, .int x1), (4, .int x4)] [.ref s0, .ref s1] h (pm_sz h - pm_sz h0) (pm_us h - pm_us h0) := by
  have le0 := moX9_makeRoom_b112 hf
  have kc1 := Nat.sub_le_sub_right le0.1 (pm_sz h0)
  have kc2 := Nat.sub_le_sub_right le0.2 (pm_us h0)
  have K0 := pm_S3.rf h
  unfold fX9_makeRoom_b112 at hf
  obtain ⟨k40, hf⟩ := pm_if hf
  refine pm_putR C dX9_makeRoom_112 flX9_204 rfl rfl k40 ?_
  exact pa_join (pm_S3R K0) (pm_sub [0, 1, 2] rfl (bX9_makeRoom_115 C X (m0.trans (pm_S3.le (pm_S3R K0))) hf q))
set_option maxHeartbeats 4000000 in
set_option maxRecDepth 100000 in
theorem bX9_makeRoom_96 {g : pm_Gm} {l : Launch} {G : pm_Gl} {Qr : Option Value → pm_H → Prop} (C : pm_C g cX9_makeRoom RX9) {h0 h : pm_H} {x0 : Nat} {x1 : Int32} {x4 : Int32} {r : pm_H} (X : pm_X g l G mX9_makeRoom (pm_sz r - pm_sz h0) (pm_us r - pm_us h0) Qr) (m0 : pm_Le h0 h) (hf : fX9_makeRoom_b96 h x0 x1 x4 = some r) (q : Qr none r) : pm_G g 96 [(0, .ref x0), (1, .int x1), (4, .int x4)] [] h (pm_sz h - pm_sz h0) (pm_us h - pm_us h0) := by
  have le0 := moX9_makeRoom_b96 hf
  have kc1 := Nat.sub_le_sub_right le0.1 (pm_sz h0)
  have kc2 := Nat.sub_le_sub_right le0.2 (pm_us h0)
  have K0 := pm_S3.rf h
  unfold fX9_makeRoom_b96 at hf
  refine pm_iload_n C dX9_makeRoom_96 rfl rfl ?_
  refine pm_iconst (v := 1) C dX9_makeRoom_97 (by decide) ?_
  refine pm_icmp_ne (tgt := 115) C dX9_makeRoom_98 (by decide) (fun c24 => ?_) (fun c24 => ?_)
  · have hf := pm_ie hf c24
    exact pa_join K0 (pm_sub [0, 1, 2] rfl (bX9_makeRoom_115 C X (m0.trans (pm_S3.le K0)) hf q))
  · have hf := pm_it hf c24
    refine pm_aload_n C dX9_makeRoom_101 rfl rfl ?_
    obtain ⟨k25, hf⟩ := pm_if hf
    obtain ⟨v26, e27, hf⟩ := pm_bd hf
    refine pm_getR C dX9_makeRoom_102 flX9_19 rfl k25 e27 ?_
    refine pm_iload C dX9_makeRoom_105 rfl ?_
    refine pm_iconst (v := 0) C dX9_makeRoom_107 (by decide) ?_
    obtain ⟨u28, hf⟩ := pm_if hf
    refine pa_mna (hb := h) (h0 := h0) (t := 4) (u := 2) (N := x4.toNatClampNeg) C X K0 m0 dX9_makeRoom_108 (Or.inl ⟨rfl, rfl⟩) cmX9_202 al2 u28.1 rfl u28.2 (moX9_makeRoom_b112 hf) ?_
    exact pm_sub [0, 1, 2] rfl (bX9_makeRoom_112 C X ((m0.trans (pm_S3.le K0)).trans (pm_Le_ma _ _ _ _ _)) hf q)
set_option maxHeartbeats 4000000 in
set_option maxRecDepth 100000 in
theorem bX9_makeRoom_93 {g : pm_Gm} {l : Launch} {G : pm_Gl} {Qr : Option Value → pm_H → Prop} (C : pm_C g cX9_makeRoom RX9) {h0 h : pm_H} {x0 : Nat} {x1 : Int32} {x4 : Int32} {s0 : Nat} {s1 : Int32} {s2 : Nat} {r : pm_H} (X : pm_X g l G mX9_makeRoom (pm_sz r - pm_sz h0) (pm_us r - pm_us h0) Qr) (m0 : pm_Le h0 h) (hf : fX9_makeRoom_b93 h x0 x1 x4 s0 s1 s2 = some r) (q : Qr none r) : pm_G g 93 [(0, .ref x0), (1, .int x1), (4, .int x4)] [.ref s0, .int s1, .ref s2] h (pm_sz h - pm_sz h0) (pm_us h - pm_us h0) := by
  have le0 := moX9_makeRoom_b93 hf
  have kc1 := Nat.sub_le_sub_right le0.1 (pm_sz h0)
  have kc2 := Nat.sub_le_sub_right le0.2 (pm_us h0)
  have K0 := pm_S3.rf h
  unfold fX9_makeRoom_b93 at hf
  obtain ⟨k29, hf⟩ := pm_if hf
  obtain ⟨v30, e31, hf⟩ := pm_bd hf
  refine pm_callV (as := [.int s1, .ref s0]) (st := []) C X dX9_makeRoom_93 lnX9_198 myX7_setSpace viX7_setSpace ⟨by decide, by decide⟩ rfl rfl k29 (Nat.le_of_ble_eq_true rfl) kc1 kc2 (ctX7_setSpace e31 ?_)
  have K32 := pm_S3.trans (kpX7_setSpace e31) K0
  show pm_G g 96 [(0, .ref x0), (1, .int x1), (4, .int x4)] [] v30 (pm_sz h - pm_sz h0) (pm_us h - pm_us h0)
  exact pa_join K32 (pm_sub [0, 1, 2] rfl (bX9_makeRoom_96 C X (m0.trans (pm_S3.le K32)) hf q))
set_option maxHeartbeats 4000000 in
set_option maxRecDepth 100000 in
theorem bX9_makeRoom_17 {g : pm_Gm} {l : Launch} {G : pm_Gl} {Qr : Option Value → pm_H → Prop} (C : pm_C g cX9_makeRoom RX9) {h0 h : pm_H} {x0 : Nat} {x1 : Int32} {x2 : Int64} {r : pm_H} (X : pm_X g l G mX9_makeRoom (pm_sz r - pm_sz h0) (pm_us r - pm_us h0) Qr) (m0 : pm_Le h0 h) (hf : fX9_makeRoom_b17 h x0 x1 x2 = some r) (q : Qr none r) : pm_G g 17 [(0, .ref x0), (1, .int x1), (2, .long x2)] [] h (pm_sz h - pm_sz h0) (pm_us h - pm_us h0) := by
  have le0 := moX9_makeRoom_b17 hf
  have kc1 := Nat.sub_le_sub_right le0.1 (pm_sz h0)
  have kc2 := Nat.sub_le_sub_right le0.2 (pm_us h0)
  have K0 := pm_S3.rf h
  unfold fX9_makeRoom_b17 at hf
  refine pm_lconst (v := 0) C dX9_makeRoom_17 (by decide) ?_
  refine pm_lload_n C dX9_makeRoom_18 rfl rfl ?_
  refine pm_aload_n C dX9_makeRoom_19 rfl rfl ?_
  obtain ⟨k6, hf⟩ := pm_if hf
  refine pm_getI C dX9_makeRoom_20 flX9_60 rfl k6 rfl ?_
  refine pm_aload_n C dX9_makeRoom_23 rfl rfl ?_
  refine pm_getI C dX9_makeRoom_24 flX9_51 rfl k6 rfl ?_
  refine pm_isub C dX9_makeRoom_27 ?_
  refine pm_i2l C dX9_makeRoom_28 ?_
  obtain ⟨y7, e8, hf⟩ := pm_lt hf
  refine pm_topL e8 ?_
  refine pm_mminJ C (pm_XR X) dX9_makeRoom_29 mtX9_178 (by decide) (by decide) (Nat.le_of_ble_eq_true rfl) kc1 kc2 ?_
  obtain ⟨y9, e10, hf⟩ := pm_lt hf
  refine pm_topL e10 ?_
  refine pm_mmaxJ C (pm_XR X) dX9_makeRoom_32 mtX9_182 (by decide) (by decide) (Nat.le_of_ble_eq_true rfl) kc1 kc2 ?_
  refine pm_l2i C dX9_makeRoom_35 ?_
  obtain ⟨y11, e12, hf⟩ := pm_lt hf
  refine pm_topI e12 ?_
  refine pm_istore (lv' := [(4, .int y11), (0, .ref x0), (1, .int x1), (2, .long x2)]) C dX9_makeRoom_36 (pm_nl X (by decide)) rfl ?_
  refine pm_iload_n C dX9_makeRoom_38 rfl rfl ?_
  refine pm_iconst (v := 3) C dX9_makeRoom_39 (by decide) ?_
  refine pm_icmp_lt (tgt := 96) C dX9_makeRoom_40 (by decide) (fun c13 => ?_) (fun c13 => ?_)
  · have hf := pm_it hf c13
    exact pa_join K0 (pm_sub [1, 2, 0] rfl (bX9_makeRoom_96 C X (m0.trans (pm_S3.le K0)) hf q))
  · have hf := pm_ie hf c13
    refine pm_iload_n C dX9_makeRoom_43 rfl rfl ?_
    refine pm_bipush (v := 6) C dX9_makeRoom_44 (by decide) ?_
    refine pm_icmp_gt (tgt := 96) C dX9_makeRoom_46 (by decide) (fun c14 => ?_) (fun c14 => ?_)
    · have hf := pm_it hf c14
      exact pa_join K0 (pm_sub [1, 2, 0] rfl (bX9_makeRoom_96 C X (m0.trans (pm_S3.le K0)) hf q))
    · have hf := pm_ie hf c14
      refine pm_aload_n C dX9_makeRoom_49 rfl rfl ?_
      refine pm_aload_n C dX9_makeRoom_50 rfl rfl ?_
      obtain ⟨v15, e16, hf⟩ := pm_bd hf
      refine pm_getR C dX9_makeRoom_51 flX9_19 rfl k6 e16 ?_
      refine pm_iload_n C dX9_makeRoom_54 rfl rfl ?_
      refine pm_iconst (v := 3) C dX9_makeRoom_55 (by decide) ?_
      refine pm_isub C dX9_makeRoom_56 ?_
      obtain ⟨k17, hf⟩ := pm_if hf
      obtain ⟨v18, e19, hf⟩ := pm_bd hf
      refine pm_callV (as := [.int (x1 - 3)]) (st := [.ref x0]) C X dX9_makeRoom_57 lnX9_70 myX7_count viX7_count ⟨by decide, by decide⟩ rfl rfl k17 (Nat.le_of_ble_eq_true rfl) kc1 kc2 (ctX7_count e19 ?_)
      show pm_G g 60 [(4, .int y11), (0, .ref x0), (1, .int x1), (2, .long x2)] [.int v18, .ref x0] h (pm_sz h - pm_sz h0) (pm_us h - pm_us h0)
      refine pm_putI C dX9_makeRoom_60 flX9_185 rfl rfl k6 rfl rfl ?_
      refine pm_aload_n C dX9_makeRoom_63 rfl rfl ?_
      refine pm_getR C dX9_makeRoom_64 flX9_19 rfl k6 e16 ?_
      refine pm_iload_n C dX9_makeRoom_67 rfl rfl ?_
      refine pm_iconst (v := 3) C dX9_makeRoom_68 (by decide) ?_
      refine pm_isub C dX9_makeRoom_69 ?_
      refine pm_aload_n C dX9_makeRoom_70 rfl rfl ?_
      refine pm_getR C dX9_makeRoom_71 flX9_19 rfl k6 e16 ?_
      refine pm_iload_n C dX9_makeRoom_74 rfl rfl ?_
      refine pm_iconst (v := 3) C dX9_makeRoom_75 (by decide) ?_
      refine pm_isub C dX9_makeRoom_76 ?_
      obtain ⟨v20, e21, hf⟩ := pm_bd hf
      refine pm_callV (as := [.int (x1 - 3)]) (st := [.int (x1 - 3), .ref v15]) C X dX9_makeRoom_77 lnX9_188 myX7_space viX7_space ⟨by decide, by decide⟩ rfl rfl k17 (Nat.le_of_ble_eq_true rfl) kc1 kc2 (ctX7_space e21 ?_)
      show pm_G g 80 [(4, .int y11), (0, .ref x0), (1, .int x1), (2, .long x2)] [.ref v20, .int (x1 - 3), .ref v15] (pm_setI h x0 13 v18) (pm_sz h - pm_sz h0) (pm_us h - pm_us h0)
      refine pm_aload_n C dX9_makeRoom_80 rfl rfl ?_
      refine pm_getI C dX9_makeRoom_81 flX9_185 rfl k6 rfl ?_
      refine pm_iload C dX9_makeRoom_84 rfl ?_
      refine pm_iadd C dX9_makeRoom_86 ?_
      refine pm_bipush (v := 6) C dX9_makeRoom_87 (by decide) ?_
      refine pm_imul C dX9_makeRoom_89 ?_
      obtain ⟨v22, e23, hf⟩ := pm_bd hf
      refine pm_callS (as := [.ref v20, .int (((pm_I (pm_setI h x0 13 v18) x0 13) + y11) * 6)]) (st := [.int (x1 - 3), .ref v15]) C X dX9_makeRoom_90 lnX9_192 myJ7_copyOf_c38d5 stJ7_copyOf_c38d5 ⟨by decide, by decide⟩ rfl rfl (Nat.le_of_ble_eq_true rfl) (pa_le1 (pm_S3I K0) m0 (moJ7_copyOf_c38d5 e23) (moX9_makeRoom_b93 hf)) (pa_le2 (pm_S3I K0) m0 (moJ7_copyOf_c38d5 e23) (moX9_makeRoom_b93 hf)) (ctJ7_copyOf_c38d5 e23 ?_)
      show pm_G g 93 [(4, .int y11), (0, .ref x0), (1, .int x1), (2, .long x2)] [.ref v22.1, .int (x1 - 3), .ref v15] v22.2 (pm_sz h - pm_sz h0 + (pm_sz v22.2 - pm_sz (pm_setI h x0 13 v18))) (pm_us h - pm_us h0 + (pm_us v22.2 - pm_us (pm_setI h x0 13 v18)))
      refine pa_fin (pm_S3I K0) m0 (moJ7_copyOf_c38d5 e23) ?_
      exact pm_sub [1, 2, 0] rfl (bX9_makeRoom_93 C X ((m0.trans (pm_S3.le (pm_S3I K0))).trans (moJ7_copyOf_c38d5 e23)) hf q)
set_option maxHeartbeats 4000000 in
set_option maxRecDepth 100000 in
theorem bX9_makeRoom_0 {g : pm_Gm} {l : Launch} {G : pm_Gl} {Qr : Option Value → pm_H → Prop} (C : pm_C g cX9_makeRoom RX9) {h0 h : pm_H} {x0 : Nat} {x1 : Int32} {x2 : Int64} {r : pm_H} (X : pm_X g l G mX9_makeRoom (pm_sz r - pm_sz h0) (pm_us r - pm_us h0) Qr) (m0 : pm_Le h0 h) (hf : fX9_makeRoom_b0 h x0 x1 x2 = some r) (q : Qr none r) : pm_G g 0 [(0, .ref x0), (1, .int x1), (2, .long x2)] [] h (pm_sz h - pm_sz h0) (pm_us h - pm_us h0) := by
  have le0 := moX9_makeRoom_b0 hf
  have kc1 := Nat.sub_le_sub_right le0.1 (pm_sz h0)
  have kc2 := Nat.sub_le_sub_right le0.2 (pm_us h0)
  have K0 := pm_S3.rf h
  unfold fX9_makeRoom_b0 at hf
  refine pm_aload_n C dX9_makeRoom_0 rfl rfl ?_
  refine pm_lload_n C dX9_makeRoom_1 rfl rfl ?_
  obtain ⟨k1, hf⟩ := pm_if hf
  refine pm_putL C dX9_makeRoom_2 flX9_136 rfl rfl k1 ?_
  refine pm_lload_n C dX9_makeRoom_5 rfl rfl ?_
  refine pm_ldc2 C dX9_makeRoom_6 cnX9_173 ?_
  refine pm_lcmp C dX9_makeRoom_9 ?_
  refine pm_if_le (tgt := 17) C dX9_makeRoom_10 (by decide) (fun c2 => ?_) (fun c2 => ?_)
  · have hf := pm_it hf ((pm_lg_le _ _).mp c2)
    exact pa_join (pm_S3L K0) (pm_sub [0, 1, 2] rfl (bX9_makeRoom_17 C X (m0.trans (pm_S3.le (pm_S3L K0))) hf q))
  · have hf := pm_ie hf ((fun z => c2 ((pm_lg_le _ _).mpr z)))
    refine pm_aload_n C dX9_makeRoom_13 rfl rfl ?_
    obtain ⟨v3, e4, hf⟩ := pm_bd hf
    refine pm_callV (as := []) (st := []) C X dX9_makeRoom_14 lnX9_175 myX9_exceedLimit viX9_exceedLimit ⟨by decide, by decide⟩ rfl rfl k1 (Nat.le_of_ble_eq_true rfl) kc1 kc2 (ctX9_exceedLimit e4 ?_)
    have K5 := pm_S3.trans (kpX9_exceedLimit e4) (pm_S3L K0)
    show pm_G g 17 [(0, .ref x0), (1, .int x1), (2, .long x2)] [] v3 (pm_sz h - pm_sz h0) (pm_us h - pm_us h0)
    exact pa_join K5 (pm_sub [0, 1, 2] rfl (bX9_makeRoom_17 C X (m0.trans (pm_S3.le K5)) hf q))
set_option maxHeartbeats 4000000 in
set_option maxRecDepth 100000 in
theorem ctX9_makeRoom {l : Launch} {G : pm_Gl} {h : pm_H} {a0 : Nat} {p1 : Int32} {p2 : Int64} {r : pm_H} {Qr : Option Value → pm_H → Prop} (hf : fX9_makeRoom h a0 p1 p2 = some r) (q : Qr none r) : pm_Ct l G mX9_makeRoom [.ref a0, .int p1, .long p2] h (pm_sz r - pm_sz h) (pm_us r - pm_us h) Qr := by
  refine pm_body pnX9 (Nat.le_of_ble_eq_true rfl) (fun g C X => ?_)
  have C : pm_C g cX9_makeRoom RX9 := C
  show pm_G g 0 [(0, .ref a0), (1, .int p1), (2, .long p2)] [] h 0 0
  unfold fX9_makeRoom at hf
  exact pa_start (pm_sub [0, 1, 2] rfl (bX9_makeRoom_0 C X (pm_Le.rf h) hf q))
