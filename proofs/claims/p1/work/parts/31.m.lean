theorem dX16_stretches_0 : decode cX16_stretches 0 = .ok (.aload_n 0, 1) := by decide +kernel
theorem dX16_stretches_1 : decode cX16_stretches 1 = .ok (.getfield 140, 3) := by decide +kernel
theorem dX16_stretches_4 : decode cX16_stretches 4 = .ok (.sipush 128, 3) := by decide +kernel
theorem dX16_stretches_7 : decode cX16_stretches 7 = .ok (.aload_n 0, 1) := by decide +kernel
theorem dX16_stretches_8 : decode cX16_stretches 8 = .ok (.getfield 1110, 3) := by decide +kernel
theorem dX16_stretches_11 : decode cX16_stretches 11 = .ok (.imul, 1) := by decide +kernel
theorem dX16_stretches_12 : decode cX16_stretches 12 = .ok (.iaload, 1) := by decide +kernel
theorem dX16_stretches_13 : decode cX16_stretches 13 = .ok (.istore_n 3, 1) := by decide +kernel
theorem dX16_stretches_14 : decode cX16_stretches 14 = .ok (.aload_n 0, 1) := by decide +kernel
theorem dX16_stretches_15 : decode cX16_stretches 15 = .ok (.invokevirtual 1157, 3) := by decide +kernel
theorem dX16_stretches_18 : decode cX16_stretches 18 = .ok (.lstore 4, 2) := by decide +kernel
theorem dX16_stretches_20 : decode cX16_stretches 20 = .ok (.aload_n 0, 1) := by decide +kernel
theorem dX16_stretches_21 : decode cX16_stretches 21 = .ok (.invokevirtual 1157, 3) := by decide +kernel
theorem dX16_stretches_24 : decode cX16_stretches 24 = .ok (.lstore 6, 2) := by decide +kernel
theorem dX16_stretches_26 : decode cX16_stretches 26 = .ok (.aload_n 0, 1) := by decide +kernel
theorem dX16_stretches_27 : decode cX16_stretches 27 = .ok (.invokevirtual 1157, 3) := by decide +kernel
theorem dX16_stretches_30 : decode cX16_stretches 30 = .ok (.lstore 8, 2) := by decide +kernel
theorem dX16_stretches_32 : decode cX16_stretches 32 = .ok (.ldc2_w 636, 3) := by decide +kernel
theorem dX16_stretches_35 : decode cX16_stretches 35 = .ok (.aload_n 0, 1) := by decide +kernel
theorem dX16_stretches_36 : decode cX16_stretches 36 = .ok (.getfield 109, 3) := by decide +kernel
theorem dX16_stretches_39 : decode cX16_stretches 39 = .ok (.iload_n 3, 1) := by decide +kernel
theorem dX16_stretches_40 : decode cX16_stretches 40 = .ok (.iaload, 1) := by decide +kernel
theorem dX16_stretches_41 : decode cX16_stretches 41 = .ok (.i2l, 1) := by decide +kernel
theorem dX16_stretches_42 : decode cX16_stretches 42 = .ok (.lmul, 1) := by decide +kernel
theorem dX16_stretches_43 : decode cX16_stretches 43 = .ok (.lstore 10, 2) := by decide +kernel
theorem dX16_stretches_45 : decode cX16_stretches 45 = .ok (.iload_n 1, 1) := by decide +kernel
theorem dX16_stretches_46 : decode cX16_stretches 46 = .ok (.bipush 8, 2) := by decide +kernel
theorem dX16_stretches_48 : decode cX16_stretches 48 = .ok (.if_icmp .ne 33, 3) := by decide +kernel
theorem dX16_stretches_51 : decode cX16_stretches 51 = .ok (.aload_n 0, 1) := by decide +kernel
theorem dX16_stretches_52 : decode cX16_stretches 52 = .ok (.iconst 5, 1) := by decide +kernel
theorem dX16_stretches_53 : decode cX16_stretches 53 = .ok (.aload_n 0, 1) := by decide +kernel
theorem dX16_stretches_54 : decode cX16_stretches 54 = .ok (.aload_n 0, 1) := by decide +kernel
theorem dX16_stretches_55 : decode cX16_stretches 55 = .ok (.getfield 1110, 3) := by decide +kernel
theorem dX16_stretches_58 : decode cX16_stretches 58 = .ok (.iload_n 2, 1) := by decide +kernel
theorem dX16_stretches_59 : decode cX16_stretches 59 = .ok (.iload_n 3, 1) := by decide +kernel
theorem dX16_stretches_60 : decode cX16_stretches 60 = .ok (.lload 8, 2) := by decide +kernel
theorem dX16_stretches_62 : decode cX16_stretches 62 = .ok (.lload 6, 2) := by decide +kernel
theorem dX16_stretches_64 : decode cX16_stretches 64 = .ok (.lload 4, 2) := by decide +kernel
theorem dX16_stretches_66 : decode cX16_stretches 66 = .ok (.invokevirtual 1040, 3) := by decide +kernel
theorem dX16_stretches_69 : decode cX16_stretches 69 = .ok (.ifCond .ne 7, 3) := by decide +kernel
theorem dX16_stretches_72 : decode cX16_stretches 72 = .ok (.iconst 1, 1) := by decide +kernel
theorem dX16_stretches_73 : decode cX16_stretches 73 = .ok (.goto 4, 3) := by decide +kernel
theorem dX16_stretches_76 : decode cX16_stretches 76 = .ok (.iconst 0, 1) := by decide +kernel
theorem dX16_stretches_77 : decode cX16_stretches 77 = .ok (.invokevirtual 1163, 3) := by decide +kernel
theorem dX16_stretches_80 : decode cX16_stretches 80 = .ok (.return_, 1) := by decide +kernel
theorem dX16_stretches_81 : decode cX16_stretches 81 = .ok (.lload 8, 2) := by decide +kernel
theorem dX16_stretches_83 : decode cX16_stretches 83 = .ok (.lload 4, 2) := by decide +kernel
theorem dX16_stretches_85 : decode cX16_stretches 85 = .ok (.ladd, 1) := by decide +kernel
theorem dX16_stretches_86 : decode cX16_stretches 86 = .ok (.lload 10, 2) := by decide +kernel
theorem dX16_stretches_88 : decode cX16_stretches 88 = .ok (.lcmp, 1) := by decide +kernel
theorem dX16_stretches_89 : decode cX16_stretches 89 = .ok (.ifCond .gt 20, 3) := by decide +kernel
theorem dX16_stretches_92 : decode cX16_stretches 92 = .ok (.iload_n 1, 1) := by decide +kernel
theorem dX16_stretches_93 : decode cX16_stretches 93 = .ok (.bipush 10, 2) := by decide +kernel
theorem dX16_stretches_95 : decode cX16_stretches 95 = .ok (.if_icmp .ne 18, 3) := by decide +kernel
theorem dX16_stretches_98 : decode cX16_stretches 98 = .ok (.lload 6, 2) := by decide +kernel
theorem dX16_stretches_100 : decode cX16_stretches 100 = .ok (.lload 4, 2) := by decide +kernel
theorem dX16_stretches_102 : decode cX16_stretches 102 = .ok (.ladd, 1) := by decide +kernel
theorem dX16_stretches_103 : decode cX16_stretches 103 = .ok (.lload 10, 2) := by decide +kernel
theorem dX16_stretches_105 : decode cX16_stretches 105 = .ok (.lcmp, 1) := by decide +kernel
theorem dX16_stretches_106 : decode cX16_stretches 106 = .ok (.ifCond .le 7, 3) := by decide +kernel
theorem dX16_stretches_109 : decode cX16_stretches 109 = .ok (.iconst 1, 1) := by decide +kernel
theorem dX16_stretches_110 : decode cX16_stretches 110 = .ok (.goto 4, 3) := by decide +kernel
theorem dX16_stretches_113 : decode cX16_stretches 113 = .ok (.iconst 0, 1) := by decide +kernel
theorem dX16_stretches_114 : decode cX16_stretches 114 = .ok (.istore 12, 2) := by decide +kernel
theorem dX16_stretches_116 : decode cX16_stretches 116 = .ok (.aload_n 0, 1) := by decide +kernel
theorem dX16_stretches_117 : decode cX16_stretches 117 = .ok (.iconst 5, 1) := by decide +kernel
theorem dX16_stretches_118 : decode cX16_stretches 118 = .ok (.iload 12, 2) := by decide +kernel
theorem dX16_stretches_120 : decode cX16_stretches 120 = .ok (.invokevirtual 1163, 3) := by decide +kernel
theorem dX16_stretches_123 : decode cX16_stretches 123 = .ok (.lconst 0, 1) := by decide +kernel
theorem dX16_stretches_124 : decode cX16_stretches 124 = .ok (.lstore 13, 2) := by decide +kernel
theorem dX16_stretches_126 : decode cX16_stretches 126 = .ok (.lload 13, 2) := by decide +kernel
theorem dX16_stretches_128 : decode cX16_stretches 128 = .ok (.lload 4, 2) := by decide +kernel
theorem dX16_stretches_130 : decode cX16_stretches 130 = .ok (.lcmp, 1) := by decide +kernel
theorem dX16_stretches_131 : decode cX16_stretches 131 = .ok (.ifCond .ge 80, 3) := by decide +kernel
theorem dX16_stretches_134 : decode cX16_stretches 134 = .ok (.iload 12, 2) := by decide +kernel
theorem dX16_stretches_136 : decode cX16_stretches 136 = .ok (.ifCond .ne 75, 3) := by decide +kernel
theorem dX16_stretches_139 : decode cX16_stretches 139 = .ok (.iload_n 1, 1) := by decide +kernel
theorem dX16_stretches_140 : decode cX16_stretches 140 = .ok (.bipush 10, 2) := by decide +kernel
theorem dX16_stretches_142 : decode cX16_stretches 142 = .ok (.if_icmp .ne 21, 3) := by decide +kernel
theorem dX16_stretches_145 : decode cX16_stretches 145 = .ok (.lload 6, 2) := by decide +kernel
theorem dX16_stretches_147 : decode cX16_stretches 147 = .ok (.lload 8, 2) := by decide +kernel
theorem dX16_stretches_149 : decode cX16_stretches 149 = .ok (.lcmp, 1) := by decide +kernel
theorem dX16_stretches_150 : decode cX16_stretches 150 = .ok (.ifCond .ge 13, 3) := by decide +kernel
theorem dX16_stretches_153 : decode cX16_stretches 153 = .ok (.lload 4, 2) := by decide +kernel
theorem dX16_stretches_155 : decode cX16_stretches 155 = .ok (.lconst 1, 1) := by decide +kernel
theorem dX16_stretches_156 : decode cX16_stretches 156 = .ok (.lsub, 1) := by decide +kernel
theorem dX16_stretches_157 : decode cX16_stretches 157 = .ok (.lload 13, 2) := by decide +kernel
theorem dX16_stretches_159 : decode cX16_stretches 159 = .ok (.lsub, 1) := by decide +kernel
theorem dX16_stretches_160 : decode cX16_stretches 160 = .ok (.goto 5, 3) := by decide +kernel
theorem dX16_stretches_163 : decode cX16_stretches 163 = .ok (.lload 13, 2) := by decide +kernel
theorem dX16_stretches_165 : decode cX16_stretches 165 = .ok (.lstore 15, 2) := by decide +kernel
theorem dX16_stretches_167 : decode cX16_stretches 167 = .ok (.aload_n 0, 1) := by decide +kernel
theorem dX16_stretches_168 : decode cX16_stretches 168 = .ok (.iload_n 3, 1) := by decide +kernel
theorem dX16_stretches_169 : decode cX16_stretches 169 = .ok (.lload 8, 2) := by decide +kernel
theorem dX16_stretches_171 : decode cX16_stretches 171 = .ok (.lload 15, 2) := by decide +kernel
theorem dX16_stretches_173 : decode cX16_stretches 173 = .ok (.ladd, 1) := by decide +kernel
theorem dX16_stretches_174 : decode cX16_stretches 174 = .ok (.iload_n 1, 1) := by decide +kernel
theorem dX16_stretches_175 : decode cX16_stretches 175 = .ok (.bipush 11, 2) := by decide +kernel
theorem dX16_stretches_177 : decode cX16_stretches 177 = .ok (.if_icmp .ne 10, 3) := by decide +kernel
theorem dX16_stretches_180 : decode cX16_stretches 180 = .ok (.lload 6, 2) := by decide +kernel
theorem dX16_stretches_182 : decode cX16_stretches 182 = .ok (.l2i, 1) := by decide +kernel
theorem dX16_stretches_183 : decode cX16_stretches 183 = .ok (.i2b, 1) := by decide +kernel
theorem dX16_stretches_184 : decode cX16_stretches 184 = .ok (.goto 15, 3) := by decide +kernel
theorem dX16_stretches_187 : decode cX16_stretches 187 = .ok (.aload_n 0, 1) := by decide +kernel
theorem dX16_stretches_188 : decode cX16_stretches 188 = .ok (.iload_n 3, 1) := by decide +kernel
theorem dX16_stretches_189 : decode cX16_stretches 189 = .ok (.lload 6, 2) := by decide +kernel
theorem dX16_stretches_191 : decode cX16_stretches 191 = .ok (.lload 15, 2) := by decide +kernel
theorem dX16_stretches_193 : decode cX16_stretches 193 = .ok (.ladd, 1) := by decide +kernel
theorem dX16_stretches_194 : decode cX16_stretches 194 = .ok (.invokevirtual 1182, 3) := by decide +kernel
theorem dX16_stretches_197 : decode cX16_stretches 197 = .ok (.l2i, 1) := by decide +kernel
theorem dX16_stretches_198 : decode cX16_stretches 198 = .ok (.i2b, 1) := by decide +kernel
theorem dX16_stretches_199 : decode cX16_stretches 199 = .ok (.invokevirtual 1055, 3) := by decide +kernel
theorem dX16_stretches_202 : decode cX16_stretches 202 = .ok (.lload 13, 2) := by decide +kernel
theorem dX16_stretches_204 : decode cX16_stretches 204 = .ok (.lconst 1, 1) := by decide +kernel
theorem dX16_stretches_205 : decode cX16_stretches 205 = .ok (.ladd, 1) := by decide +kernel
theorem dX16_stretches_206 : decode cX16_stretches 206 = .ok (.lstore 13, 2) := by decide +kernel
theorem dX16_stretches_208 : decode cX16_stretches 208 = .ok (.goto (-82), 3) := by decide +kernel
theorem dX16_stretches_211 : decode cX16_stretches 211 = .ok (.return_, 1) := by decide +kernel
noncomputable def tX16_stretches_126 (x0 : Nat) (x1 : Int32) (x3 : Int32) (x4 : Int64) (x6 : Int64) (x8 : Int64) (x12 : Int32) (x13 : Int64) (h : pm_H) : Option (((Nat × Int32 × Int32 × Int64 × Int64 × Int64 × Int32 × Int64 × pm_H) ⊕ (Nat × Int32 × Int32 × Int64 × Int64 × Int64 × Int32 × Int64 × pm_H) ⊕ (Nat × Int32 × Int32 × Int64 × Int64 × Int64 × Int32 × Int64 × Int64 × pm_H)) ⊕ pm_H) := if x4 ≤ x13 then (some (.inr (h))) else (if x12 = 0 then (if x1 = 10 then (if x8 ≤ x6 then (some (.inl (.inr (.inl ((x0, x1, x3, x4, x6, x8, x12, x13, h)))))) else (some (.inl (.inr (.inr ((x0, x1, x3, x4, x6, x8, x12, x13, (x4 - 1) - x13, h))))))) else (some (.inl (.inr (.inl ((x0, x1, x3, x4, x6, x8, x12, x13, h))))))) else (some (.inr (h))))
noncomputable def tX16_stretches_163 (x0 : Nat) (x1 : Int32) (x3 : Int32) (x4 : Int64) (x6 : Int64) (x8 : Int64) (x12 : Int32) (x13 : Int64) (h : pm_H) : Option (((Nat × Int32 × Int32 × Int64 × Int64 × Int64 × Int32 × Int64 × pm_H) ⊕ (Nat × Int32 × Int32 × Int64 × Int64 × Int64 × Int32 × Int64 × pm_H) ⊕ (Nat × Int32 × Int32 × Int64 × Int64 × Int64 × Int32 × Int64 × Int64 × pm_H)) ⊕ pm_H) := some (.inl (.inr (.inr ((x0, x1, x3, x4, x6, x8, x12, x13, x13, h)))))
noncomputable def tX16_stretches_165 (x0 : Nat) (x1 : Int32) (x3 : Int32) (x4 : Int64) (x6 : Int64) (x8 : Int64) (x12 : Int32) (x13 : Int64) (s0 : Int64) (h : pm_H) : Option (((Nat × Int32 × Int32 × Int64 × Int64 × Int64 × Int32 × Int64 × pm_H) ⊕ (Nat × Int32 × Int32 × Int64 × Int64 × Int64 × Int32 × Int64 × pm_H) ⊕ (Nat × Int32 × Int32 × Int64 × Int64 × Int64 × Int32 × Int64 × Int64 × pm_H)) ⊕ pm_H) := if x1 = 11 then (if pm_kd h x0 = 16 then (fX16_sets h x0 x3 (x8 + s0) x6.toInt32.toInt8.toInt32).bind fun v59 => pm_let (x13 + 1) fun y61 => some (.inl (.inl ((x0, x1, x3, x4, x6, x8, x12, y61, v59)))) else none) else (if pm_kd h x0 = 16 then (fX16_gets h x0 x3 (x6 + s0)).bind fun v52 => (fX16_sets h x0 x3 (x8 + s0) v52.toInt32.toInt8.toInt32).bind fun v54 => pm_let (x13 + 1) fun y56 => some (.inl (.inl ((x0, x1, x3, x4, x6, x8, x12, y56, v54)))) else none)
noncomputable def sX16_stretches : ((Nat × Int32 × Int32 × Int64 × Int64 × Int64 × Int32 × Int64 × pm_H) ⊕ (Nat × Int32 × Int32 × Int64 × Int64 × Int64 × Int32 × Int64 × pm_H) ⊕ (Nat × Int32 × Int32 × Int64 × Int64 × Int64 × Int32 × Int64 × Int64 × pm_H)) → Option (((Nat × Int32 × Int32 × Int64 × Int64 × Int64 × Int32 × Int64 × pm_H) ⊕ (Nat × Int32 × Int32 × Int64 × Int64 × Int64 × Int32 × Int64 × pm_H) ⊕ (Nat × Int32 × Int32 × Int64 × Int64 × Int64 × Int32 × Int64 × Int64 × pm_H)) ⊕ pm_H) := fun z => match z with
  | .inl (x0, x1, x3, x4, x6, x8, x12, x13, h) => tX16_stretches_126 x0 x1 x3 x4 x6 x8 x12 x13 h
  | .inr (.inl (x0, x1, x3, x4, x6, x8, x12, x13, h)) => tX16_stretches_163 x0 x1 x3 x4 x6 x8 x12 x13 h
  | .inr (.inr (x0, x1, x3, x4, x6, x8, x12, x13, s0, h)) => tX16_stretches_165 x0 x1 x3 x4 x6 x8 x12 x13 s0 h
noncomputable def fX16_stretches (h : pm_H) (a0 : Nat) (p1 : Int32) (p2 : Int32) : Option pm_H := if pm_kd h a0 = 16 then (pm_R h a0 66).bind fun v2 => pm_let (128 * (pm_I h a0 95)) fun y4 => if pm_kd h v2 = 34 then if pm_in y4 (pm_ln h v2) then pm_let (pm_I h v2 y4.toNatClampNeg) fun y8 => (fX16_pop h a0).bind fun v10 => if pm_kd v10.2 a0 = 16 then (fX16_pop v10.2 a0).bind fun v13 => if pm_kd v13.2 a0 = 16 then (fX16_pop v13.2 a0).bind fun v16 => if pm_kd v16.2 a0 = 16 then (pm_R v16.2 a0 54).bind fun v19 => if pm_kd v16.2 v19 = 34 then if pm_in y8 (pm_ln v16.2 v19) then pm_let (65536 * ((pm_I v16.2 v19 y8.toNatClampNeg).toInt64)) fun y23 => if p1 = 8 then ((fX16_copiesData v16.2 a0 (pm_I v16.2 a0 95) p2 y8 v16.1 v13.1 v10.1).bind fun v37 => if v37.1 = 0 then (if pm_kd v37.2 a0 = 16 then (fX16_endsBy v37.2 a0 5 1).bind fun v44 => some v44 else none) else (if pm_kd v37.2 a0 = 16 then (fX16_endsBy v37.2 a0 5 0).bind fun v41 => some v41 else none)) else (if y23 < (v16.1 + v10.1) then ((fX16_endsBy v16.2 a0 5 1).bind fun v27 => pm_lim sX16_stretches (.inl ((a0, p1, y8, v10.1, v13.1, v16.1, 1, 0, v27)))) else (if p1 = 10 then (if (v13.1 + v10.1) ≤ y23 then ((fX16_endsBy v16.2 a0 5 0).bind fun v33 => pm_lim sX16_stretches (.inl ((a0, p1, y8, v10.1, v13.1, v16.1, 0, 0, v33)))) else ((fX16_endsBy v16.2 a0 5 1).bind fun v35 => pm_lim sX16_stretches (.inl ((a0, p1, y8, v10.1, v13.1, v16.1, 1, 0, v35))))) else ((fX16_endsBy v16.2 a0 5 0).bind fun v30 => pm_lim sX16_stretches (.inl ((a0, p1, y8, v10.1, v13.1, v16.1, 0, 0, v30)))))) else none else none else none else none else none else none else none else none
set_option maxHeartbeats 4000000 in
set_option maxRecDepth 100000 in
theorem lpX16_stretches {g : pm_Gm} {l : Launch} {G : pm_Gl} {Qr : Option Value → pm_H → Prop} (C : pm_C g cX16_stretches RX16) (X : pm_X g l G mX16_stretches 0 0 Qr) {r : pm_H} (q : Qr none r) : ∀ n : Nat, (∀ (x0 : Nat) (x1 : Int32) (x3 : Int32) (x4 : Int64) (x6 : Int64) (x8 : Int64) (x12 : Int32) (x13 : Int64) (h : pm_H), pm_iter sX16_stretches n (.inl (x0, x1, x3, x4, x6, x8, x12, x13, h)) = some r → pm_G g 126 [(0, .ref x0), (1, .int x1), (3, .int x3), (4, .long x4), (6, .long x6), (8, .long x8), (12, .int x12), (13, .long x13)] [] h 0 0) ∧ (∀ (x0 : Nat) (x1 : Int32) (x3 : Int32) (x4 : Int64) (x6 : Int64) (x8 : Int64) (x12 : Int32) (x13 : Int64) (h : pm_H), pm_iter sX16_stretches n (.inr (.inl (x0, x1, x3, x4, x6, x8, x12, x13, h))) = some r → pm_G g 163 [(0, .ref x0), (1, .int x1), (3, .int x3), (4, .long x4), (6, .long x6), (8, .long x8), (12, .int x12), (13, .long x13)] [] h 0 0) ∧ (∀ (x0 : Nat) (x1 : Int32) (x3 : Int32) (x4 : Int64) (x6 : Int64) (x8 : Int64) (x12 : Int32) (x13 : Int64) (s0 : Int64) (h : pm_H), pm_iter sX16_stretches n (.inr (.inr (x0, x1, x3, x4, x6, x8, x12, x13, s0, h))) = some r → pm_G g 165 [(0, .ref x0), (1, .int x1), (3, .int x3), (4, .long x4), (6, .long x6), (8, .long x8), (12, .int x12), (13, .long x13)] [.long s0] h 0 0) := by
  intro n
  induction n with
  | zero => exact ⟨fun _ _ _ _ _ _ _ _ _ hf => (by cases hf), fun _ _ _ _ _ _ _ _ _ hf => (by cases hf), fun _ _ _ _ _ _ _ _ _ _ hf => (by cases hf)⟩
  | succ n ih =>
    refine ⟨fun x0 x1 x3 x4 x6 x8 x12 x13 h hf => ?_, ?_⟩
    · obtain ⟨y, hf, hi⟩ := pm_iter_s hf
      have hf : tX16_stretches_126 x0 x1 x3 x4 x6 x8 x12 x13 h = some y := hf
      unfold tX16_stretches_126 at hf
      refine pm_lload C dX16_stretches_126 rfl ?_
      refine pm_lload C dX16_stretches_128 rfl ?_
      refine pm_lcmp C dX16_stretches_130 ?_
      refine pm_if_ge (tgt := 211) C dX16_stretches_131 (by decide) (fun c46 => ?_) (fun c46 => ?_)
      · have hf := pm_it hf ((pm_lg_ge _ _).mp c46)
        cases hf
        cases hi
        exact pm_vret C X dX16_stretches_211 rfl (Nat.le_refl _) (Nat.le_refl _) q
      · have hf := pm_ie hf ((fun z => c46 ((pm_lg_ge _ _).mpr z)))
        refine pm_iload C dX16_stretches_134 rfl ?_
        refine pm_if_ne (tgt := 211) C dX16_stretches_136 (by decide) (fun c47 => ?_) (fun c47 => ?_)
        · have hf := pm_ie hf c47
          cases hf
          cases hi
          exact pm_vret C X dX16_stretches_211 rfl (Nat.le_refl _) (Nat.le_refl _) q
        · have hf := pm_it hf c47
          refine pm_iload_n C dX16_stretches_139 rfl rfl ?_
          refine pm_bipush (v := 10) C dX16_stretches_140 (by decide) ?_
          refine pm_icmp_ne (tgt := 163) C dX16_stretches_142 (by decide) (fun c48 => ?_) (fun c48 => ?_)
          · have hf := pm_ie hf c48
            cases hf
            exact pm_sub [0, 1, 2, 3, 4, 5, 6, 7] rfl (ih.2.1 x0 x1 x3 x4 x6 x8 x12 x13 h hi)
          · have hf := pm_it hf c48
            refine pm_lload C dX16_stretches_145 rfl ?_
            refine pm_lload C dX16_stretches_147 rfl ?_
            refine pm_lcmp C dX16_stretches_149 ?_
            refine pm_if_ge (tgt := 163) C dX16_stretches_150 (by decide) (fun c49 => ?_) (fun c49 => ?_)
            · have hf := pm_it hf ((pm_lg_ge _ _).mp c49)
              cases hf
              exact pm_sub [0, 1, 2, 3, 4, 5, 6, 7] rfl (ih.2.1 x0 x1 x3 x4 x6 x8 x12 x13 h hi)
            · have hf := pm_ie hf ((fun z => c49 ((pm_lg_ge _ _).mpr z)))
              refine pm_lload C dX16_stretches_153 rfl ?_
              refine pm_lconst (v := 1) C dX16_stretches_155 (by decide) ?_
              refine pm_lsub C dX16_stretches_156 ?_
              refine pm_lload C dX16_stretches_157 rfl ?_
              refine pm_lsub C dX16_stretches_159 ?_
              refine pm_goto (tgt := 165) C dX16_stretches_160 (by decide) ?_
              cases hf
              exact pm_sub [0, 1, 2, 3, 4, 5, 6, 7] rfl (ih.2.2 x0 x1 x3 x4 x6 x8 x12 x13 ((x4 - 1) - x13) h hi)
    refine ⟨fun x0 x1 x3 x4 x6 x8 x12 x13 h hf => ?_, ?_⟩
    · obtain ⟨y, hf, hi⟩ := pm_iter_s hf
      have hf : tX16_stretches_163 x0 x1 x3 x4 x6 x8 x12 x13 h = some y := hf
      unfold tX16_stretches_163 at hf
      refine pm_lload C dX16_stretches_163 rfl ?_
      cases hf
      exact pm_sub [0, 1, 2, 3, 4, 5, 6, 7] rfl (ih.2.2 x0 x1 x3 x4 x6 x8 x12 x13 x13 h hi)
    refine fun x0 x1 x3 x4 x6 x8 x12 x13 s0 h hf => ?_
    obtain ⟨y, hf, hi⟩ := pm_iter_s hf
    have hf : tX16_stretches_165 x0 x1 x3 x4 x6 x8 x12 x13 s0 h = some y := hf
    unfold tX16_stretches_165 at hf
    refine pm_lstore (lv' := [(15, .long s0), (0, .ref x0), (1, .int x1), (3, .int x3), (4, .long x4), (6, .long x6), (8, .long x8), (12, .int x12), (13, .long x13)]) C dX16_stretches_165 (pm_nl X (by decide)) rfl ?_
    refine pm_aload_n C dX16_stretches_167 rfl rfl ?_
    refine pm_iload_n C dX16_stretches_168 rfl rfl ?_
    refine pm_lload C dX16_stretches_169 rfl ?_
    refine pm_lload C dX16_stretches_171 rfl ?_
    refine pm_ladd C dX16_stretches_173 ?_
    refine pm_iload_n C dX16_stretches_174 rfl rfl ?_
    refine pm_bipush (v := 11) C dX16_stretches_175 (by decide) ?_
    refine pm_icmp_ne (tgt := 187) C dX16_stretches_177 (by decide) (fun c50 => ?_) (fun c50 => ?_)
    · have hf := pm_ie hf c50
      refine pm_aload_n C dX16_stretches_187 rfl rfl ?_
      refine pm_iload_n C dX16_stretches_188 rfl rfl ?_
      refine pm_lload C dX16_stretches_189 rfl ?_
      refine pm_lload C dX16_stretches_191 rfl ?_
      refine pm_ladd C dX16_stretches_193 ?_
      obtain ⟨k51, hf⟩ := pm_if hf
      obtain ⟨v52, e53, hf⟩ := pm_bd hf
      refine pm_callV (as := [.int x3, .long (x6 + s0)]) (st := [.long (x8 + s0), .int x3, .ref x0]) C X dX16_stretches_194 lnX16_1182 myX16_gets viX16_gets ⟨by decide, by decide⟩ rfl rfl k51 (Nat.le_of_ble_eq_true rfl) (Nat.le_refl _) (Nat.le_refl _) (ctX16_gets e53 ?_)
      show pm_G g 197 [(15, .long s0), (0, .ref x0), (1, .int x1), (3, .int x3), (4, .long x4), (6, .long x6), (8, .long x8), (12, .int x12), (13, .long x13)] [.long v52, .long (x8 + s0), .int x3, .ref x0] h 0 0
      refine pm_l2i C dX16_stretches_197 ?_
      refine pm_i2b C dX16_stretches_198 ?_
      obtain ⟨v54, e55, hf⟩ := pm_bd hf
      refine pm_callV (as := [.int x3, .long (x8 + s0), .int v52.toInt32.toInt8.toInt32]) (st := []) C X dX16_stretches_199 lnX16_1055 myX16_sets viX16_sets ⟨by decide, by decide⟩ rfl rfl k51 (Nat.le_of_ble_eq_true rfl) (Nat.le_refl _) (Nat.le_refl _) (ctX16_sets e55 ?_)
      show pm_G g 202 [(15, .long s0), (0, .ref x0), (1, .int x1), (3, .int x3), (4, .long x4), (6, .long x6), (8, .long x8), (12, .int x12), (13, .long x13)] [] v54 0 0
      refine pm_lload C dX16_stretches_202 rfl ?_
      refine pm_lconst (v := 1) C dX16_stretches_204 (by decide) ?_
      refine pm_ladd C dX16_stretches_205 ?_
      obtain ⟨y56, e57, hf⟩ := pm_lt hf
      refine pm_topL e57 ?_
      refine pm_lstore (lv' := [(13, .long y56), (15, .long s0), (0, .ref x0), (1, .int x1), (3, .int x3), (4, .long x4), (6, .long x6), (8, .long x8), (12, .int x12)]) C dX16_stretches_206 (pm_nl X (by decide)) rfl ?_
      refine pm_goto (tgt := 126) C dX16_stretches_208 (by decide) ?_
      cases hf
      exact pm_sub [2, 3, 4, 5, 6, 7, 8, 0] rfl (ih.1 x0 x1 x3 x4 x6 x8 x12 y56 v54 hi)
    · have hf := pm_it hf c50
      refine pm_lload C dX16_stretches_180 rfl ?_
      refine pm_l2i C dX16_stretches_182 ?_
      refine pm_i2b C dX16_stretches_183 ?_
      refine pm_goto (tgt := 199) C dX16_stretches_184 (by decide) ?_
      obtain ⟨k58, hf⟩ := pm_if hf
      obtain ⟨v59, e60, hf⟩ := pm_bd hf
      refine pm_callV (as := [.int x3, .long (x8 + s0), .int x6.toInt32.toInt8.toInt32]) (st := []) C X dX16_stretches_199 lnX16_1055 myX16_sets viX16_sets ⟨by decide, by decide⟩ rfl rfl k58 (Nat.le_of_ble_eq_true rfl) (Nat.le_refl _) (Nat.le_refl _) (ctX16_sets e60 ?_)
      show pm_G g 202 [(15, .long s0), (0, .ref x0), (1, .int x1), (3, .int x3), (4, .long x4), (6, .long x6), (8, .long x8), (12, .int x12), (13, .long x13)] [] v59 0 0
      refine pm_lload C dX16_stretches_202 rfl ?_
      refine pm_lconst (v := 1) C dX16_stretches_204 (by decide) ?_
      refine pm_ladd C dX16_stretches_205 ?_
      obtain ⟨y61, e62, hf⟩ := pm_lt hf
      refine pm_topL e62 ?_
      refine pm_lstore (lv' := [(13, .long y61), (15, .long s0), (0, .ref x0), (1, .int x1), (3, .int x3), (4, .long x4), (6, .long x6), (8, .long x8), (12, .int x12)]) C dX16_stretches_206 (pm_nl X (by decide)) rfl ?_
      refine pm_goto (tgt := 126) C dX16_stretches_208 (by decide) ?_
      cases hf
      exact pm_sub [2, 3, 4, 5, 6, 7, 8, 0] rfl (ih.1 x0 x1 x3 x4 x6 x8 x12 y61 v59 hi)
set_option maxHeartbeats 4000000 in
set_option maxRecDepth 100000 in
theorem ctX16_stretches {l : Launch} {G : pm_Gl} {h : pm_H} {a0 : Nat} {p1 : Int32} {p2 : Int32} {r : pm_H} {Qr : Option Value → pm_H → Prop} (hf : fX16_stretches h a0 p1 p2 = some r) (q : Qr none r) : pm_Ct l G mX16_stretches [.ref a0, .int p1, .int p2] h 0 0 Qr := by
  refine pm_body pnX16 (Nat.le_of_ble_eq_true rfl) (fun g C X => ?_)
  have C : pm_C g cX16_stretches RX16 := C
  show pm_G g 0 [(0, .ref a0), (1, .int p1), (2, .int p2)] [] h 0 0
  unfold fX16_stretches at hf
  refine pm_aload_n C dX16_stretches_0 rfl rfl ?_
  obtain ⟨k1, hf⟩ := pm_if hf
  obtain ⟨v2, e3, hf⟩ := pm_bd hf
  refine pm_getR C dX16_stretches_1 flX16_140 rfl k1 e3 ?_
  refine pm_sipush (v := 128) C dX16_stretches_4 (by decide) ?_
  refine pm_aload_n C dX16_stretches_7 rfl rfl ?_
  refine pm_getI C dX16_stretches_8 flX16_1110 rfl k1 rfl ?_
  refine pm_imul C dX16_stretches_11 ?_
  obtain ⟨y4, e5, hf⟩ := pm_lt hf
  refine pm_topI e5 ?_
  obtain ⟨k6, hf⟩ := pm_if hf
  obtain ⟨u7, hf⟩ := pm_if hf
  refine pm_iald C dX16_stretches_12 k6 u7 rfl ?_
  obtain ⟨y8, e9, hf⟩ := pm_lt hf
  refine pm_topI e9 ?_
  refine pm_istore_n (lv' := [(3, .int y8), (0, .ref a0), (1, .int p1), (2, .int p2)]) C dX16_stretches_13 rfl (pm_nl X (by decide)) rfl ?_
  refine pm_aload_n C dX16_stretches_14 rfl rfl ?_
  obtain ⟨v10, e11, hf⟩ := pm_bd hf
  refine pm_callV (as := []) (st := []) C X dX16_stretches_15 lnX16_1157 myX16_pop viX16_pop ⟨by decide, by decide⟩ rfl rfl k1 (Nat.le_of_ble_eq_true rfl) (Nat.le_refl _) (Nat.le_refl _) (ctX16_pop e11 ?_)
  show pm_G g 18 [(3, .int y8), (0, .ref a0), (1, .int p1), (2, .int p2)] [.long v10.1] v10.2 0 0
  refine pm_lstore (lv' := [(4, .long v10.1), (3, .int y8), (0, .ref a0), (1, .int p1), (2, .int p2)]) C dX16_stretches_18 (pm_nl X (by decide)) rfl ?_
  refine pm_aload_n C dX16_stretches_20 rfl rfl ?_
  obtain ⟨k12, hf⟩ := pm_if hf
  obtain ⟨v13, e14, hf⟩ := pm_bd hf
  refine pm_callV (as := []) (st := []) C X dX16_stretches_21 lnX16_1157 myX16_pop viX16_pop ⟨by decide, by decide⟩ rfl rfl k12 (Nat.le_of_ble_eq_true rfl) (Nat.le_refl _) (Nat.le_refl _) (ctX16_pop e14 ?_)
  show pm_G g 24 [(4, .long v10.1), (3, .int y8), (0, .ref a0), (1, .int p1), (2, .int p2)] [.long v13.1] v13.2 0 0
  refine pm_lstore (lv' := [(6, .long v13.1), (4, .long v10.1), (3, .int y8), (0, .ref a0), (1, .int p1), (2, .int p2)]) C dX16_stretches_24 (pm_nl X (by decide)) rfl ?_
  refine pm_aload_n C dX16_stretches_26 rfl rfl ?_
  obtain ⟨k15, hf⟩ := pm_if hf
  obtain ⟨v16, e17, hf⟩ := pm_bd hf
  refine pm_callV (as := []) (st := []) C X dX16_stretches_27 lnX16_1157 myX16_pop viX16_pop ⟨by decide, by decide⟩ rfl rfl k15 (Nat.le_of_ble_eq_true rfl) (Nat.le_refl _) (Nat.le_refl _) (ctX16_pop e17 ?_)
  show pm_G g 30 [(6, .long v13.1), (4, .long v10.1), (3, .int y8), (0, .ref a0), (1, .int p1), (2, .int p2)] [.long v16.1] v16.2 0 0
  refine pm_lstore (lv' := [(8, .long v16.1), (6, .long v13.1), (4, .long v10.1), (3, .int y8), (0, .ref a0), (1, .int p1), (2, .int p2)]) C dX16_stretches_30 (pm_nl X (by decide)) rfl ?_
  refine pm_ldc2 C dX16_stretches_32 cnX16_636 ?_
  refine pm_aload_n C dX16_stretches_35 rfl rfl ?_
  obtain ⟨k18, hf⟩ := pm_if hf
  obtain ⟨v19, e20, hf⟩ := pm_bd hf
  refine pm_getR C dX16_stretches_36 flX16_109 rfl k18 e20 ?_
  refine pm_iload_n C dX16_stretches_39 rfl rfl ?_
  obtain ⟨k21, hf⟩ := pm_if hf
  obtain ⟨u22, hf⟩ := pm_if hf
  refine pm_iald C dX16_stretches_40 k21 u22 rfl ?_
  refine pm_i2l C dX16_stretches_41 ?_
  refine pm_lmul C dX16_stretches_42 ?_
  obtain ⟨y23, e24, hf⟩ := pm_lt hf
  refine pm_topL e24 ?_
  refine pm_lstore (lv' := [(10, .long y23), (8, .long v16.1), (6, .long v13.1), (4, .long v10.1), (3, .int y8), (0, .ref a0), (1, .int p1), (2, .int p2)]) C dX16_stretches_43 (pm_nl X (by decide)) rfl ?_
  refine pm_iload_n C dX16_stretches_45 rfl rfl ?_
  refine pm_bipush (v := 8) C dX16_stretches_46 (by decide) ?_
  refine pm_icmp_ne (tgt := 81) C dX16_stretches_48 (by decide) (fun c25 => ?_) (fun c25 => ?_)
  · have hf := pm_ie hf c25
    refine pm_lload C dX16_stretches_81 rfl ?_
    refine pm_lload C dX16_stretches_83 rfl ?_
    refine pm_ladd C dX16_stretches_85 ?_
    refine pm_lload C dX16_stretches_86 rfl ?_
    refine pm_lcmp C dX16_stretches_88 ?_
    refine pm_if_gt (tgt := 109) C dX16_stretches_89 (by decide) (fun c26 => ?_) (fun c26 => ?_)
    · have hf := pm_it hf ((pm_lg_gt _ _).mp c26)
      refine pm_iconst (v := 1) C dX16_stretches_109 (by decide) ?_
      refine pm_goto (tgt := 114) C dX16_stretches_110 (by decide) ?_
      refine pm_istore (lv' := [(12, .int 1), (10, .long y23), (8, .long v16.1), (6, .long v13.1), (4, .long v10.1), (3, .int y8), (0, .ref a0), (1, .int p1), (2, .int p2)]) C dX16_stretches_114 (pm_nl X (by decide)) rfl ?_
      refine pm_aload_n C dX16_stretches_116 rfl rfl ?_
      refine pm_iconst (v := 5) C dX16_stretches_117 (by decide) ?_
      refine pm_iload C dX16_stretches_118 rfl ?_
      obtain ⟨v27, e28, hf⟩ := pm_bd hf
      refine pm_callV (as := [.int 5, .int 1]) (st := []) C X dX16_stretches_120 lnX16_1163 myX16_endsBy viX16_endsBy ⟨by decide, by decide⟩ rfl rfl k18 (Nat.le_of_ble_eq_true rfl) (Nat.le_refl _) (Nat.le_refl _) (ctX16_endsBy e28 ?_)
      show pm_G g 123 [(12, .int 1), (10, .long y23), (8, .long v16.1), (6, .long v13.1), (4, .long v10.1), (3, .int y8), (0, .ref a0), (1, .int p1), (2, .int p2)] [] v27 0 0
      refine pm_lconst (v := 0) C dX16_stretches_123 (by decide) ?_
      refine pm_lstore (lv' := [(13, .long 0), (12, .int 1), (10, .long y23), (8, .long v16.1), (6, .long v13.1), (4, .long v10.1), (3, .int y8), (0, .ref a0), (1, .int p1), (2, .int p2)]) C dX16_stretches_124 (pm_nl X (by decide)) rfl ?_
      obtain ⟨n, hn⟩ := pm_lim_iter hf
      exact pm_sub [7, 8, 6, 5, 4, 3, 1, 0] rfl ((lpX16_stretches C X q n).1 a0 p1 y8 v10.1 v13.1 v16.1 1 0 v27 hn)
    · have hf := pm_ie hf ((fun z => c26 ((pm_lg_gt _ _).mpr z)))
      refine pm_iload_n C dX16_stretches_92 rfl rfl ?_
      refine pm_bipush (v := 10) C dX16_stretches_93 (by decide) ?_
      refine pm_icmp_ne (tgt := 113) C dX16_stretches_95 (by decide) (fun c29 => ?_) (fun c29 => ?_)
      · have hf := pm_ie hf c29
        refine pm_iconst (v := 0) C dX16_stretches_113 (by decide) ?_
        refine pm_istore (lv' := [(12, .int 0), (10, .long y23), (8, .long v16.1), (6, .long v13.1), (4, .long v10.1), (3, .int y8), (0, .ref a0), (1, .int p1), (2, .int p2)]) C dX16_stretches_114 (pm_nl X (by decide)) rfl ?_
        refine pm_aload_n C dX16_stretches_116 rfl rfl ?_
        refine pm_iconst (v := 5) C dX16_stretches_117 (by decide) ?_
        refine pm_iload C dX16_stretches_118 rfl ?_
        obtain ⟨v30, e31, hf⟩ := pm_bd hf
        refine pm_callV (as := [.int 5, .int 0]) (st := []) C X dX16_stretches_120 lnX16_1163 myX16_endsBy viX16_endsBy ⟨by decide, by decide⟩ rfl rfl k18 (Nat.le_of_ble_eq_true rfl) (Nat.le_refl _) (Nat.le_refl _) (ctX16_endsBy e31 ?_)
        show pm_G g 123 [(12, .int 0), (10, .long y23), (8, .long v16.1), (6, .long v13.1), (4, .long v10.1), (3, .int y8), (0, .ref a0), (1, .int p1), (2, .int p2)] [] v30 0 0
        refine pm_lconst (v := 0) C dX16_stretches_123 (by decide) ?_
        refine pm_lstore (lv' := [(13, .long 0), (12, .int 0), (10, .long y23), (8, .long v16.1), (6, .long v13.1), (4, .long v10.1), (3, .int y8), (0, .ref a0), (1, .int p1), (2, .int p2)]) C dX16_stretches_124 (pm_nl X (by decide)) rfl ?_
        obtain ⟨n, hn⟩ := pm_lim_iter hf
        exact pm_sub [7, 8, 6, 5, 4, 3, 1, 0] rfl ((lpX16_stretches C X q n).1 a0 p1 y8 v10.1 v13.1 v16.1 0 0 v30 hn)
      · have hf := pm_it hf c29
        refine pm_lload C dX16_stretches_98 rfl ?_
        refine pm_lload C dX16_stretches_100 rfl ?_
        refine pm_ladd C dX16_stretches_102 ?_
        refine pm_lload C dX16_stretches_103 rfl ?_
        refine pm_lcmp C dX16_stretches_105 ?_
        refine pm_if_le (tgt := 113) C dX16_stretches_106 (by decide) (fun c32 => ?_) (fun c32 => ?_)
        · have hf := pm_it hf ((pm_lg_le _ _).mp c32)
          refine pm_iconst (v := 0) C dX16_stretches_113 (by decide) ?_
          refine pm_istore (lv' := [(12, .int 0), (10, .long y23), (8, .long v16.1), (6, .long v13.1), (4, .long v10.1), (3, .int y8), (0, .ref a0), (1, .int p1), (2, .int p2)]) C dX16_stretches_114 (pm_nl X (by decide)) rfl ?_
          refine pm_aload_n C dX16_stretches_116 rfl rfl ?_
          refine pm_iconst (v := 5) C dX16_stretches_117 (by decide) ?_
          refine pm_iload C dX16_stretches_118 rfl ?_
          obtain ⟨v33, e34, hf⟩ := pm_bd hf
          refine pm_callV (as := [.int 5, .int 0]) (st := []) C X dX16_stretches_120 lnX16_1163 myX16_endsBy viX16_endsBy ⟨by decide, by decide⟩ rfl rfl k18 (Nat.le_of_ble_eq_true rfl) (Nat.le_refl _) (Nat.le_refl _) (ctX16_endsBy e34 ?_)
          show pm_G g 123 [(12, .int 0), (10, .long y23), (8, .long v16.1), (6, .long v13.1), (4, .long v10.1), (3, .int y8), (0, .ref a0), (1, .int p1), (2, .int p2)] [] v33 0 0
          refine pm_lconst (v := 0) C dX16_stretches_123 (by decide) ?_
          refine pm_lstore (lv' := [(13, .long 0), (12, .int 0), (10, .long y23), (8, .long v16.1), (6, .long v13.1), (4, .long v10.1), (3, .int y8), (0, .ref a0), (1, .int p1), (2, .int p2)]) C dX16_stretches_124 (pm_nl X (by decide)) rfl ?_
          obtain ⟨n, hn⟩ := pm_lim_iter hf
          exact pm_sub [7, 8, 6, 5, 4, 3, 1, 0] rfl ((lpX16_stretches C X q n).1 a0 p1 y8 v10.1 v13.1 v16.1 0 0 v33 hn)
        · have hf := pm_ie hf ((fun z => c32 ((pm_lg_le _ _).mpr z)))
          refine pm_iconst (v := 1) C dX16_stretches_109 (by decide) ?_
          refine pm_goto (tgt := 114) C dX16_stretches_110 (by decide) ?_
          refine pm_istore (lv' := [(12, .int 1), (10, .long y23), (8, .long v16.1), (6, .long v13.1), (4, .long v10.1), (3, .int y8), (0, .ref a0), (1, .int p1), (2, .int p2)]) C dX16_stretches_114 (pm_nl X (by decide)) rfl ?_
          refine pm_aload_n C dX16_stretches_116 rfl rfl ?_
          refine pm_iconst (v := 5) C dX16_stretches_117 (by decide) ?_
          refine pm_iload C dX16_stretches_118 rfl ?_
          obtain ⟨v35, e36, hf⟩ := pm_bd hf
          refine pm_callV (as := [.int 5, .int 1]) (st := []) C X dX16_stretches_120 lnX16_1163 myX16_endsBy viX16_endsBy ⟨by decide, by decide⟩ rfl rfl k18 (Nat.le_of_ble_eq_true rfl) (Nat.le_refl _) (Nat.le_refl _) (ctX16_endsBy e36 ?_)
          show pm_G g 123 [(12, .int 1), (10, .long y23), (8, .long v16.1), (6, .long v13.1), (4, .long v10.1), (3, .int y8), (0, .ref a0), (1, .int p1), (2, .int p2)] [] v35 0 0
          refine pm_lconst (v := 0) C dX16_stretches_123 (by decide) ?_
          refine pm_lstore (lv' := [(13, .long 0), (12, .int 1), (10, .long y23), (8, .long v16.1), (6, .long v13.1), (4, .long v10.1), (3, .int y8), (0, .ref a0), (1, .int p1), (2, .int p2)]) C dX16_stretches_124 (pm_nl X (by decide)) rfl ?_
          obtain ⟨n, hn⟩ := pm_lim_iter hf
          exact pm_sub [7, 8, 6, 5, 4, 3, 1, 0] rfl ((lpX16_stretches C X q n).1 a0 p1 y8 v10.1 v13.1 v16.1 1 0 v35 hn)
  · have hf := pm_it hf c25
    refine pm_aload_n C dX16_stretches_51 rfl rfl ?_
    refine pm_iconst (v := 5) C dX16_stretches_52 (by decide) ?_
    refine pm_aload_n C dX16_stretches_53 rfl rfl ?_
    refine pm_aload_n C dX16_stretches_54 rfl rfl ?_
    refine pm_getI C dX16_stretches_55 flX16_1110 rfl k18 rfl ?_
    refine pm_iload_n C dX16_stretches_58 rfl rfl ?_
    refine pm_iload_n C dX16_stretches_59 rfl rfl ?_
    refine pm_lload C dX16_stretches_60 rfl ?_
    refine pm_lload C dX16_stretches_62 rfl ?_
    refine pm_lload C dX16_stretches_64 rfl ?_
    obtain ⟨v37, e38, hf⟩ := pm_bd hf
    refine pm_callV (as := [.int (pm_I v16.2 a0 95), .int p2, .int y8, .long v16.1, .long v13.1, .long v10.1]) (st := [.int 5, .ref a0]) C X dX16_stretches_66 lnX16_1040 myX16_copiesData viX16_copiesData ⟨by decide, by decide⟩ rfl rfl k18 (Nat.le_of_ble_eq_true rfl) (Nat.le_refl _) (Nat.le_refl _) (ctX16_copiesData e38 ?_)
    show pm_G g 69 [(10, .long y23), (8, .long v16.1), (6, .long v13.1), (4, .long v10.1), (3, .int y8), (0, .ref a0), (1, .int p1), (2, .int p2)] [.int v37.1, .int 5, .ref a0] v37.2 0 0
    refine pm_if_ne (tgt := 76) C dX16_stretches_69 (by decide) (fun c39 => ?_) (fun c39 => ?_)
    · have hf := pm_ie hf c39
      refine pm_iconst (v := 0) C dX16_stretches_76 (by decide) ?_
      obtain ⟨k40, hf⟩ := pm_if hf
      obtain ⟨v41, e42, hf⟩ := pm_bd hf
      refine pm_callV (as := [.int 5, .int 0]) (st := []) C X dX16_stretches_77 lnX16_1163 myX16_endsBy viX16_endsBy ⟨by decide, by decide⟩ rfl rfl k40 (Nat.le_of_ble_eq_true rfl) (Nat.le_refl _) (Nat.le_refl _) (ctX16_endsBy e42 ?_)
      show pm_G g 80 [(10, .long y23), (8, .long v16.1), (6, .long v13.1), (4, .long v10.1), (3, .int y8), (0, .ref a0), (1, .int p1), (2, .int p2)] [] v41 0 0
      cases hf
      exact pm_vret C X dX16_stretches_80 rfl (Nat.le_refl _) (Nat.le_refl _) q
    · have hf := pm_it hf c39
      refine pm_iconst (v := 1) C dX16_stretches_72 (by decide) ?_
      refine pm_goto (tgt := 77) C dX16_stretches_73 (by decide) ?_
      obtain ⟨k43, hf⟩ := pm_if hf
      obtain ⟨v44, e45, hf⟩ := pm_bd hf
      refine pm_callV (as := [.int 5, .int 1]) (st := []) C X dX16_stretches_77 lnX16_1163 myX16_endsBy viX16_endsBy ⟨by decide, by decide⟩ rfl rfl k43 (Nat.le_of_ble_eq_true rfl) (Nat.le_refl _) (Nat.le_refl _) (ctX16_endsBy e45 ?_)
      show pm_G g 80 [(10, .long y23), (8, .long v16.1), (6, .long v13.1), (4, .long v10.1), (3, .int y8), (0, .ref a0), (1, .int p1), (2, .int p2)] [] v44 0 0
      cases hf
      exact pm_vret C X dX16_stretches_80 rfl (Nat.le_refl _) (Nat.le_refl _) q
theorem dX16_sumOf_0 : decode cX16_sumOf 0 = .ok (.aload_n 1, 1) := by decide +kernel
theorem dX16_sumOf_1 : decode cX16_sumOf 1 = .ok (.getfield 913, 3) := by decide +kernel
theorem dX16_sumOf_4 : decode cX16_sumOf 4 = .ok (.aload_n 2, 1) := by decide +kernel
theorem dX16_sumOf_5 : decode cX16_sumOf 5 = .ok (.getfield 913, 3) := by decide +kernel
theorem dX16_sumOf_8 : decode cX16_sumOf 8 = .ok (.isub, 1) := by decide +kernel
theorem dX16_sumOf_9 : decode cX16_sumOf 9 = .ok (.istore_n 3, 1) := by decide +kernel
theorem dX16_sumOf_10 : decode cX16_sumOf 10 = .ok (.iload_n 3, 1) := by decide +kernel
theorem dX16_sumOf_11 : decode cX16_sumOf 11 = .ok (.bipush 64, 2) := by decide +kernel
theorem dX16_sumOf_13 : decode cX16_sumOf 13 = .ok (.if_icmp .le 13, 3) := by decide +kernel
theorem dX16_sumOf_16 : decode cX16_sumOf 16 = .ok (.aload_n 1, 1) := by decide +kernel
theorem dX16_sumOf_17 : decode cX16_sumOf 17 = .ok (.getfield 913, 3) := by decide +kernel
theorem dX16_sumOf_20 : decode cX16_sumOf 20 = .ok (.bipush 64, 2) := by decide +kernel
theorem dX16_sumOf_22 : decode cX16_sumOf 22 = .ok (.isub, 1) := by decide +kernel
theorem dX16_sumOf_23 : decode cX16_sumOf 23 = .ok (.goto 7, 3) := by decide +kernel
theorem dX16_sumOf_26 : decode cX16_sumOf 26 = .ok (.aload_n 2, 1) := by decide +kernel
theorem dX16_sumOf_27 : decode cX16_sumOf 27 = .ok (.getfield 913, 3) := by decide +kernel
theorem dX16_sumOf_30 : decode cX16_sumOf 30 = .ok (.istore 4, 2) := by decide +kernel
theorem dX16_sumOf_32 : decode cX16_sumOf 32 = .ok (.iload_n 3, 1) := by decide +kernel
theorem dX16_sumOf_33 : decode cX16_sumOf 33 = .ok (.ifCond .ne 7, 3) := by decide +kernel
theorem dX16_sumOf_36 : decode cX16_sumOf 36 = .ok (.lconst 0, 1) := by decide +kernel
theorem dX16_sumOf_37 : decode cX16_sumOf 37 = .ok (.goto 25, 3) := by decide +kernel
theorem dX16_sumOf_40 : decode cX16_sumOf 40 = .ok (.iload_n 3, 1) := by decide +kernel
theorem dX16_sumOf_41 : decode cX16_sumOf 41 = .ok (.bipush 64, 2) := by decide +kernel
theorem dX16_sumOf_43 : decode cX16_sumOf 43 = .ok (.if_icmp .lt 10, 3) := by decide +kernel
theorem dX16_sumOf_46 : decode cX16_sumOf 46 = .ok (.aload_n 1, 1) := by decide +kernel
theorem dX16_sumOf_47 : decode cX16_sumOf 47 = .ok (.getfield 916, 3) := by decide +kernel
theorem dX16_sumOf_50 : decode cX16_sumOf 50 = .ok (.goto 12, 3) := by decide +kernel
theorem dX16_sumOf_53 : decode cX16_sumOf 53 = .ok (.aload_n 1, 1) := by decide +kernel
theorem dX16_sumOf_54 : decode cX16_sumOf 54 = .ok (.getfield 916, 3) := by decide +kernel
theorem dX16_sumOf_57 : decode cX16_sumOf 57 = .ok (.bipush 64, 2) := by decide +kernel
theorem dX16_sumOf_59 : decode cX16_sumOf 59 = .ok (.iload_n 3, 1) := by decide +kernel
theorem dX16_sumOf_60 : decode cX16_sumOf 60 = .ok (.isub, 1) := by decide +kernel
theorem dX16_sumOf_61 : decode cX16_sumOf 61 = .ok (.lushr, 1) := by decide +kernel
theorem dX16_sumOf_62 : decode cX16_sumOf 62 = .ok (.lstore 5, 2) := by decide +kernel
theorem dX16_sumOf_64 : decode cX16_sumOf 64 = .ok (.iload_n 3, 1) := by decide +kernel
theorem dX16_sumOf_65 : decode cX16_sumOf 65 = .ok (.bipush 64, 2) := by decide +kernel
theorem dX16_sumOf_67 : decode cX16_sumOf 67 = .ok (.if_icmp .lt 7, 3) := by decide +kernel
theorem dX16_sumOf_70 : decode cX16_sumOf 70 = .ok (.lconst 0, 1) := by decide +kernel
theorem dX16_sumOf_71 : decode cX16_sumOf 71 = .ok (.goto 9, 3) := by decide +kernel
theorem dX16_sumOf_74 : decode cX16_sumOf 74 = .ok (.aload_n 1, 1) := by decide +kernel
theorem dX16_sumOf_75 : decode cX16_sumOf 75 = .ok (.getfield 916, 3) := by decide +kernel
theorem dX16_sumOf_78 : decode cX16_sumOf 78 = .ok (.iload_n 3, 1) := by decide +kernel
theorem dX16_sumOf_79 : decode cX16_sumOf 79 = .ok (.lshl, 1) := by decide +kernel
theorem dX16_sumOf_80 : decode cX16_sumOf 80 = .ok (.lstore 7, 2) := by decide +kernel
theorem dX16_sumOf_82 : decode cX16_sumOf 82 = .ok (.aload_n 2, 1) := by decide +kernel
theorem dX16_sumOf_83 : decode cX16_sumOf 83 = .ok (.getfield 916, 3) := by decide +kernel
theorem dX16_sumOf_86 : decode cX16_sumOf 86 = .ok (.lstore 9, 2) := by decide +kernel
theorem dX16_sumOf_88 : decode cX16_sumOf 88 = .ok (.bipush 64, 2) := by decide +kernel
theorem dX16_sumOf_90 : decode cX16_sumOf 90 = .ok (.istore 11, 2) := by decide +kernel
theorem dX16_sumOf_92 : decode cX16_sumOf 92 = .ok (.iload 11, 2) := by decide +kernel
theorem dX16_sumOf_94 : decode cX16_sumOf 94 = .ok (.iload_n 3, 1) := by decide +kernel
theorem dX16_sumOf_95 : decode cX16_sumOf 95 = .ok (.if_icmp .ge 27, 3) := by decide +kernel
theorem dX16_sumOf_98 : decode cX16_sumOf 98 = .ok (.lload 9, 2) := by decide +kernel
theorem dX16_sumOf_100 : decode cX16_sumOf 100 = .ok (.lconst 1, 1) := by decide +kernel
theorem dX16_sumOf_101 : decode cX16_sumOf 101 = .ok (.lcmp, 1) := by decide +kernel
theorem dX16_sumOf_102 : decode cX16_sumOf 102 = .ok (.ifCond .le 20, 3) := by decide +kernel
theorem dX16_sumOf_105 : decode cX16_sumOf 105 = .ok (.lload 9, 2) := by decide +kernel
theorem dX16_sumOf_107 : decode cX16_sumOf 107 = .ok (.iconst 1, 1) := by decide +kernel
theorem dX16_sumOf_108 : decode cX16_sumOf 108 = .ok (.lushr, 1) := by decide +kernel
theorem dX16_sumOf_109 : decode cX16_sumOf 109 = .ok (.lload 9, 2) := by decide +kernel
theorem dX16_sumOf_111 : decode cX16_sumOf 111 = .ok (.lconst 1, 1) := by decide +kernel
theorem dX16_sumOf_112 : decode cX16_sumOf 112 = .ok (.land, 1) := by decide +kernel
theorem dX16_sumOf_113 : decode cX16_sumOf 113 = .ok (.lor, 1) := by decide +kernel
theorem dX16_sumOf_114 : decode cX16_sumOf 114 = .ok (.lstore 9, 2) := by decide +kernel
theorem dX16_sumOf_116 : decode cX16_sumOf 116 = .ok (.iinc 11 1, 3) := by decide +kernel
theorem dX16_sumOf_119 : decode cX16_sumOf 119 = .ok (.goto (-27), 3) := by decide +kernel
theorem dX16_sumOf_122 : decode cX16_sumOf 122 = .ok (.aload_n 1, 1) := by decide +kernel
theorem dX16_sumOf_123 : decode cX16_sumOf 123 = .ok (.getfield 921, 3) := by decide +kernel
theorem dX16_sumOf_126 : decode cX16_sumOf 126 = .ok (.aload_n 2, 1) := by decide +kernel
theorem dX16_sumOf_127 : decode cX16_sumOf 127 = .ok (.getfield 921, 3) := by decide +kernel
theorem dX16_sumOf_130 : decode cX16_sumOf 130 = .ok (.if_icmp .ne 43, 3) := by decide +kernel
theorem dX16_sumOf_133 : decode cX16_sumOf 133 = .ok (.lload 7, 2) := by decide +kernel
theorem dX16_sumOf_135 : decode cX16_sumOf 135 = .ok (.lload 9, 2) := by decide +kernel
theorem dX16_sumOf_137 : decode cX16_sumOf 137 = .ok (.ladd, 1) := by decide +kernel
theorem dX16_sumOf_138 : decode cX16_sumOf 138 = .ok (.lstore 11, 2) := by decide +kernel
theorem dX16_sumOf_140 : decode cX16_sumOf 140 = .ok (.iload_n 0, 1) := by decide +kernel
theorem dX16_sumOf_141 : decode cX16_sumOf 141 = .ok (.aload_n 1, 1) := by decide +kernel
theorem dX16_sumOf_142 : decode cX16_sumOf 142 = .ok (.getfield 921, 3) := by decide +kernel
theorem dX16_sumOf_145 : decode cX16_sumOf 145 = .ok (.lload 11, 2) := by decide +kernel
theorem dX16_sumOf_147 : decode cX16_sumOf 147 = .ok (.lload 7, 2) := by decide +kernel
theorem dX16_sumOf_149 : decode cX16_sumOf 149 = .ok (.invokestatic 827, 3) := by decide +kernel
theorem dX16_sumOf_152 : decode cX16_sumOf 152 = .ok (.ifCond .eq 10, 3) := by decide +kernel
theorem dX16_sumOf_155 : decode cX16_sumOf 155 = .ok (.lload 5, 2) := by decide +kernel
theorem dX16_sumOf_157 : decode cX16_sumOf 157 = .ok (.lconst 1, 1) := by decide +kernel
theorem dX16_sumOf_158 : decode cX16_sumOf 158 = .ok (.ladd, 1) := by decide +kernel
theorem dX16_sumOf_159 : decode cX16_sumOf 159 = .ok (.goto 5, 3) := by decide +kernel
theorem dX16_sumOf_162 : decode cX16_sumOf 162 = .ok (.lload 5, 2) := by decide +kernel
theorem dX16_sumOf_164 : decode cX16_sumOf 164 = .ok (.lload 11, 2) := by decide +kernel
theorem dX16_sumOf_166 : decode cX16_sumOf 166 = .ok (.iload 4, 2) := by decide +kernel
theorem dX16_sumOf_168 : decode cX16_sumOf 168 = .ok (.iconst 0, 1) := by decide +kernel
theorem dX16_sumOf_169 : decode cX16_sumOf 169 = .ok (.invokestatic 924, 3) := by decide +kernel
theorem dX16_sumOf_172 : decode cX16_sumOf 172 = .ok (.lreturn, 1) := by decide +kernel
theorem dX16_sumOf_173 : decode cX16_sumOf 173 = .ok (.lload 5, 2) := by decide +kernel
theorem dX16_sumOf_175 : decode cX16_sumOf 175 = .ok (.lconst 0, 1) := by decide +kernel
theorem dX16_sumOf_176 : decode cX16_sumOf 176 = .ok (.lcmp, 1) := by decide +kernel
theorem dX16_sumOf_177 : decode cX16_sumOf 177 = .ok (.ifCond .ne 13, 3) := by decide +kernel
theorem dX16_sumOf_180 : decode cX16_sumOf 180 = .ok (.lload 7, 2) := by decide +kernel
theorem dX16_sumOf_182 : decode cX16_sumOf 182 = .ok (.lload 9, 2) := by decide +kernel
theorem dX16_sumOf_184 : decode cX16_sumOf 184 = .ok (.lcmp, 1) := by decide +kernel
theorem dX16_sumOf_185 : decode cX16_sumOf 185 = .ok (.ifCond .ne 5, 3) := by decide +kernel
theorem dX16_sumOf_188 : decode cX16_sumOf 188 = .ok (.lconst 0, 1) := by decide +kernel
theorem dX16_sumOf_189 : decode cX16_sumOf 189 = .ok (.lreturn, 1) := by decide +kernel
theorem dX16_sumOf_190 : decode cX16_sumOf 190 = .ok (.lload 5, 2) := by decide +kernel
theorem dX16_sumOf_192 : decode cX16_sumOf 192 = .ok (.lconst 0, 1) := by decide +kernel
theorem dX16_sumOf_193 : decode cX16_sumOf 193 = .ok (.lcmp, 1) := by decide +kernel
theorem dX16_sumOf_194 : decode cX16_sumOf 194 = .ok (.ifCond .ne 31, 3) := by decide +kernel
theorem dX16_sumOf_197 : decode cX16_sumOf 197 = .ok (.lload 7, 2) := by decide +kernel
theorem dX16_sumOf_199 : decode cX16_sumOf 199 = .ok (.lload 9, 2) := by decide +kernel
theorem dX16_sumOf_201 : decode cX16_sumOf 201 = .ok (.invokestatic 827, 3) := by decide +kernel
theorem dX16_sumOf_204 : decode cX16_sumOf 204 = .ok (.ifCond .eq 21, 3) := by decide +kernel
theorem dX16_sumOf_207 : decode cX16_sumOf 207 = .ok (.iload_n 0, 1) := by decide +kernel
theorem dX16_sumOf_208 : decode cX16_sumOf 208 = .ok (.aload_n 2, 1) := by decide +kernel
theorem dX16_sumOf_209 : decode cX16_sumOf 209 = .ok (.getfield 921, 3) := by decide +kernel
theorem dX16_sumOf_212 : decode cX16_sumOf 212 = .ok (.lconst 0, 1) := by decide +kernel
theorem dX16_sumOf_213 : decode cX16_sumOf 213 = .ok (.lload 9, 2) := by decide +kernel
theorem dX16_sumOf_215 : decode cX16_sumOf 215 = .ok (.lload 7, 2) := by decide +kernel
theorem dX16_sumOf_217 : decode cX16_sumOf 217 = .ok (.lsub, 1) := by decide +kernel
theorem dX16_sumOf_218 : decode cX16_sumOf 218 = .ok (.iload 4, 2) := by decide +kernel
theorem dX16_sumOf_220 : decode cX16_sumOf 220 = .ok (.iconst 0, 1) := by decide +kernel
theorem dX16_sumOf_221 : decode cX16_sumOf 221 = .ok (.invokestatic 924, 3) := by decide +kernel
theorem dX16_sumOf_224 : decode cX16_sumOf 224 = .ok (.lreturn, 1) := by decide +kernel
theorem dX16_sumOf_225 : decode cX16_sumOf 225 = .ok (.iload_n 0, 1) := by decide +kernel
theorem dX16_sumOf_226 : decode cX16_sumOf 226 = .ok (.aload_n 1, 1) := by decide +kernel
theorem dX16_sumOf_227 : decode cX16_sumOf 227 = .ok (.getfield 921, 3) := by decide +kernel
theorem dX16_sumOf_230 : decode cX16_sumOf 230 = .ok (.lload 7, 2) := by decide +kernel
theorem dX16_sumOf_232 : decode cX16_sumOf 232 = .ok (.lload 9, 2) := by decide +kernel
theorem dX16_sumOf_234 : decode cX16_sumOf 234 = .ok (.invokestatic 827, 3) := by decide +kernel
theorem dX16_sumOf_237 : decode cX16_sumOf 237 = .ok (.ifCond .eq 10, 3) := by decide +kernel
theorem dX16_sumOf_240 : decode cX16_sumOf 240 = .ok (.lload 5, 2) := by decide +kernel
theorem dX16_sumOf_242 : decode cX16_sumOf 242 = .ok (.lconst 1, 1) := by decide +kernel
theorem dX16_sumOf_243 : decode cX16_sumOf 243 = .ok (.lsub, 1) := by decide +kernel
theorem dX16_sumOf_244 : decode cX16_sumOf 244 = .ok (.goto 5, 3) := by decide +kernel
theorem dX16_sumOf_247 : decode cX16_sumOf 247 = .ok (.lload 5, 2) := by decide +kernel
theorem dX16_sumOf_249 : decode cX16_sumOf 249 = .ok (.lload 7, 2) := by decide +kernel
theorem dX16_sumOf_251 : decode cX16_sumOf 251 = .ok (.lload 9, 2) := by decide +kernel
theorem dX16_sumOf_253 : decode cX16_sumOf 253 = .ok (.lsub, 1) := by decide +kernel
theorem dX16_sumOf_254 : decode cX16_sumOf 254 = .ok (.iload 4, 2) := by decide +kernel
theorem dX16_sumOf_256 : decode cX16_sumOf 256 = .ok (.iconst 0, 1) := by decide +kernel
theorem dX16_sumOf_257 : decode cX16_sumOf 257 = .ok (.invokestatic 924, 3) := by decide +kernel
theorem dX16_sumOf_260 : decode cX16_sumOf 260 = .ok (.lreturn, 1) := by decide +kernel
noncomputable def tX16_sumOf_30 (h : pm_H) (x0 : Int32) (x1 : Nat) (x2 : Nat) (x3 : Int32) (s0 : Int32) : Option (((Int32 × Nat × Nat × Int32 × Int32) ⊕ (Int32 × Nat × Nat × Int32 × Int32 × Int64) ⊕ (Int32 × Nat × Nat × Int32 × Int32 × Int64 × Int64 × Int64 × Int32) ⊕ (Int32 × Nat × Nat × Int32 × Int64 × Int64 × Int64) ⊕ (Int32 × Nat × Nat × Int32 × Int64 × Int64 × Int64)) ⊕ Int64) := if x3 = 0 then (some (.inl (.inr (.inl ((x0, x1, x2, x3, s0, 0)))))) else (if x3 < 64 then (if pm_kd h x1 = 15 then some (.inl (.inr (.inl ((x0, x1, x2, x3, s0, ((pm_L h x1 2).toUInt64 >>> ((64 - x3).toInt64.toUInt64 &&& Int64.toUInt64 63)).toInt64))))) else none) else (if pm_kd h x1 = 15 then some (.inl (.inr (.inl ((x0, x1, x2, x3, s0, pm_L h x1 2))))) else none))
noncomputable def tX16_sumOf_62 (h : pm_H) (x0 : Int32) (x1 : Nat) (x2 : Nat) (x3 : Int32) (x4 : Int32) (s0 : Int64) : Option (((Int32 × Nat × Nat × Int32 × Int32) ⊕ (Int32 × Nat × Nat × Int32 × Int32 × Int64) ⊕ (Int32 × Nat × Nat × Int32 × Int32 × Int64 × Int64 × Int64 × Int32) ⊕ (Int32 × Nat × Nat × Int32 × Int64 × Int64 × Int64) ⊕ (Int32 × Nat × Nat × Int32 × Int64 × Int64 × Int64)) ⊕ Int64) := if x3 < 64 then (if pm_kd h x1 = 15 then pm_let ((pm_L h x1 2) <<< (x3.toInt64 &&& 63)) fun y12 => if pm_kd h x2 = 15 then pm_let (pm_L h x2 2) fun y15 => some (.inl (.inr (.inr (.inl ((x0, x1, x2, x3, x4, s0, y12, y15, 64)))))) else none else none) else (if pm_kd h x2 = 15 then pm_let (pm_L h x2 2) fun y18 => some (.inl (.inr (.inr (.inl ((x0, x1, x2, x3, x4, s0, 0, y18, 64)))))) else none)
noncomputable def tX16_sumOf_92 (h : pm_H) (x0 : Int32) (x1 : Nat) (x2 : Nat) (x3 : Int32) (x4 : Int32) (x5 : Int64) (x7 : Int64) (x9 : Int64) (x11 : Int32) : Option (((Int32 × Nat × Nat × Int32 × Int32) ⊕ (Int32 × Nat × Nat × Int32 × Int32 × Int64) ⊕ (Int32 × Nat × Nat × Int32 × Int32 × Int64 × Int64 × Int64 × Int32) ⊕ (Int32 × Nat × Nat × Int32 × Int64 × Int64 × Int64) ⊕ (Int32 × Nat × Nat × Int32 × Int64 × Int64 × Int64)) ⊕ Int64) := if x3 ≤ x11 then (some (.inl (.inr (.inr (.inr (.inl ((x0, x1, x2, x4, x5, x7, x9)))))))) else (if x9 ≤ 1 then (some (.inl (.inr (.inr (.inr (.inl ((x0, x1, x2, x4, x5, x7, x9)))))))) else (pm_let (((x9.toUInt64 >>> ((1 : Int32).toInt64.toUInt64 &&& Int64.toUInt64 63)).toInt64) ||| (x9 &&& 1)) fun y22 => pm_let (x11 + 1) fun y24 => some (.inl (.inr (.inr (.inl ((x0, x1, x2, x3, x4, x5, x7, y22, y24))))))))
noncomputable def tX16_sumOf_122 (h : pm_H) (x0 : Int32) (x1 : Nat) (x2 : Nat) (x4 : Int32) (x5 : Int64) (x7 : Int64) (x9 : Int64) : Option (((Int32 × Nat × Nat × Int32 × Int32) ⊕ (Int32 × Nat × Nat × Int32 × Int32 × Int64) ⊕ (Int32 × Nat × Nat × Int32 × Int32 × Int64 × Int64 × Int64 × Int32) ⊕ (Int32 × Nat × Nat × Int32 × Int64 × Int64 × Int64) ⊕ (Int32 × Nat × Nat × Int32 × Int64 × Int64 × Int64)) ⊕ Int64) := if pm_kd h x1 = 15 then if pm_kd h x2 = 15 then if (pm_I h x1 0) = (pm_I h x2 0) then (pm_let (x7 + x9) fun y31 => pm_let (fX16_isBelow y31 x7) fun v33 => if v33 = 0 then ((fX16_rounded x0 (pm_I h x1 0) x5 y31 x4 0).bind fun v36 => some (.inr (v36))) else ((fX16_rounded x0 (pm_I h x1 0) (x5 + 1) y31 x4 0).bind fun v38 => some (.inr (v38)))) else (if x5 = 0 then (if x7 = x9 then (some (.inr (0))) else (some (.inl (.inr (.inr (.inr (.inr ((x0, x1, x2, x4, x5, x7, x9))))))))) else (some (.inl (.inr (.inr (.inr (.inr ((x0, x1, x2, x4, x5, x7, x9))))))))) else none else none
noncomputable def tX16_sumOf_190 (h : pm_H) (x0 : Int32) (x1 : Nat) (x2 : Nat) (x4 : Int32) (x5 : Int64) (x7 : Int64) (x9 : Int64) : Option (((Int32 × Nat × Nat × Int32 × Int32) ⊕ (Int32 × Nat × Nat × Int32 × Int32 × Int64) ⊕ (Int32 × Nat × Nat × Int32 × Int32 × Int64 × Int64 × Int64 × Int32) ⊕ (Int32 × Nat × Nat × Int32 × Int64 × Int64 × Int64) ⊕ (Int32 × Nat × Nat × Int32 × Int64 × Int64 × Int64)) ⊕ Int64) := if x5 = 0 then (pm_let (fX16_isBelow x7 x9) fun v49 => if v49 = 0 then (if pm_kd h x1 = 15 then pm_let (fX16_isBelow x7 x9) fun v53 => if v53 = 0 then ((fX16_rounded x0 (pm_I h x1 0) x5 (x7 - x9) x4 0).bind fun v56 => some (.inr (v56))) else ((fX16_rounded x0 (pm_I h x1 0) (x5 - 1) (x7 - x9) x4 0).bind fun v58 => some (.inr (v58))) else none) else (if pm_kd h x2 = 15 then (fX16_rounded x0 (pm_I h x2 0) 0 (x9 - x7) x4 0).bind fun v61 => some (.inr (v61)) else none)) else (if pm_kd h x1 = 15 then pm_let (fX16_isBelow x7 x9) fun v42 => if v42 = 0 then ((fX16_rounded x0 (pm_I h x1 0) x5 (x7 - x9) x4 0).bind fun v45 => some (.inr (v45))) else ((fX16_rounded x0 (pm_I h x1 0) (x5 - 1) (x7 - x9) x4 0).bind fun v47 => some (.inr (v47))) else none)
noncomputable def sX16_sumOf (h : pm_H) : ((Int32 × Nat × Nat × Int32 × Int32) ⊕ (Int32 × Nat × Nat × Int32 × Int32 × Int64) ⊕ (Int32 × Nat × Nat × Int32 × Int32 × Int64 × Int64 × Int64 × Int32) ⊕ (Int32 × Nat × Nat × Int32 × Int64 × Int64 × Int64) ⊕ (Int32 × Nat × Nat × Int32 × Int64 × Int64 × Int64)) → Option (((Int32 × Nat × Nat × Int32 × Int32) ⊕ (Int32 × Nat × Nat × Int32 × Int32 × Int64) ⊕ (Int32 × Nat × Nat × Int32 × Int32 × Int64 × Int64 × Int64 × Int32) ⊕ (Int32 × Nat × Nat × Int32 × Int64 × Int64 × Int64) ⊕ (Int32 × Nat × Nat × Int32 × Int64 × Int64 × Int64)) ⊕ Int64) := fun z => match z with
  | .inl (x0, x1, x2, x3, s0) => tX16_sumOf_30 h x0 x1 x2 x3 s0
  | .inr (.inl (x0, x1, x2, x3, x4, s0)) => tX16_sumOf_62 h x0 x1 x2 x3 x4 s0
  | .inr (.inr (.inl (x0, x1, x2, x3, x4, x5, x7, x9, x11))) => tX16_sumOf_92 h x0 x1 x2 x3 x4 x5 x7 x9 x11
  | .inr (.inr (.inr (.inl (x0, x1, x2, x4, x5, x7, x9)))) => tX16_sumOf_122 h x0 x1 x2 x4 x5 x7 x9
  | .inr (.inr (.inr (.inr (x0, x1, x2, x4, x5, x7, x9)))) => tX16_sumOf_190 h x0 x1 x2 x4 x5 x7 x9
noncomputable def fX16_sumOf (h : pm_H) (p1 : Int32) (p2 : Nat) (p3 : Nat) : Option Int64 := if pm_kd h p2 = 15 then if pm_kd h p3 = 15 then pm_let ((pm_I h p2 3) - (pm_I h p3 3)) fun y3 => if y3 ≤ 64 then (pm_lim (sX16_sumOf h) (.inl ((p1, p2, p3, y3, pm_I h p3 3)))) else (pm_lim (sX16_sumOf h) (.inl ((p1, p2, p3, y3, (pm_I h p2 3) - 64)))) else none else none
set_option maxHeartbeats 4000000 in
set_option maxRecDepth 100000 in
theorem lpX16_sumOf {g : pm_Gm} {l : Launch} {G : pm_Gl} {Qr : Option Value → pm_H → Prop} (C : pm_C g cX16_sumOf RX16) (X : pm_X g l G mX16_sumOf 0 0 Qr) {h : pm_H} {r : Int64} (q : Qr (some (.long r)) h) : ∀ n : Nat, (∀ (x0 : Int32) (x1 : Nat) (x2 : Nat) (x3 : Int32) (s0 : Int32), pm_iter (sX16_sumOf h) n (.inl (x0, x1, x2, x3, s0)) = some r → pm_G g 30 [(0, .int x0), (1, .ref x1), (2, .ref x2), (3, .int x3)] [.int s0] h 0 0) ∧ (∀ (x0 : Int32) (x1 : Nat) (x2 : Nat) (x3 : Int32) (x4 : Int32) (s0 : Int64), pm_iter (sX16_sumOf h) n (.inr (.inl (x0, x1, x2, x3, x4, s0))) = some r → pm_G g 62 [(0, .int x0), (1, .ref x1), (2, .ref x2), (3, .int x3), (4, .int x4)] [.long s0] h 0 0) ∧ (∀ (x0 : Int32) (x1 : Nat) (x2 : Nat) (x3 : Int32) (x4 : Int32) (x5 : Int64) (x7 : Int64) (x9 : Int64) (x11 : Int32), pm_iter (sX16_sumOf h) n (.inr (.inr (.inl (x0, x1, x2, x3, x4, x5, x7, x9, x11)))) = some r → pm_G g 92 [(0, .int x0), (1, .ref x1), (2, .ref x2), (3, .int x3), (4, .int x4), (5, .long x5), (7, .long x7), (9, .long x9), (11, .int x11)] [] h 0 0) ∧ (∀ (x0 : Int32) (x1 : Nat) (x2 : Nat) (x4 : Int32) (x5 : Int64) (x7 : Int64) (x9 : Int64), pm_iter (sX16_sumOf h) n (.inr (.inr (.inr (.inl (x0, x1, x2, x4, x5, x7, x9))))) = some r → pm_G g 122 [(0, .int x0), (1, .ref x1), (2, .ref x2), (4, .int x4), (5, .long x5), (7, .long x7), (9, .long x9)] [] h 0 0) ∧ (∀ (x0 : Int32) (x1 : Nat) (x2 : Nat) (x4 : Int32) (x5 : Int64) (x7 : Int64) (x9 : Int64), pm_iter (sX16_sumOf h) n (.inr (.inr (.inr (.inr (x0, x1, x2, x4, x5, x7, x9))))) = some r → pm_G g 190 [(0, .int x0), (1, .ref x1), (2, .ref x2), (4, .int x4), (5, .long x5), (7, .long x7), (9, .long x9)] [] h 0 0) := by
  intro n
  induction n with
  | zero => exact ⟨fun _ _ _ _ _ hf => (by cases hf), fun _ _ _ _ _ _ hf => (by cases hf), fun _ _ _ _ _ _ _ _ _ hf => (by cases hf), fun _ _ _ _ _ _ _ hf => (by cases hf), fun _ _ _ _ _ _ _ hf => (by cases hf)⟩
  | succ n ih =>
    refine ⟨fun x0 x1 x2 x3 s0 hf => ?_, ?_⟩
    · obtain ⟨y, hf, hi⟩ := pm_iter_s hf
      have hf : tX16_sumOf_30 h x0 x1 x2 x3 s0 = some y := hf
      unfold tX16_sumOf_30 at hf
      refine pm_istore (lv' := [(4, .int s0), (0, .int x0), (1, .ref x1), (2, .ref x2), (3, .int x3)]) C dX16_sumOf_30 (pm_nl X (by decide)) rfl ?_
      refine pm_iload_n C dX16_sumOf_32 rfl rfl ?_
      refine pm_if_ne (tgt := 40) C dX16_sumOf_33 (by decide) (fun c6 => ?_) (fun c6 => ?_)
      · have hf := pm_ie hf c6
        refine pm_iload_n C dX16_sumOf_40 rfl rfl ?_
        refine pm_bipush (v := 64) C dX16_sumOf_41 (by decide) ?_
        refine pm_icmp_lt (tgt := 53) C dX16_sumOf_43 (by decide) (fun c7 => ?_) (fun c7 => ?_)
        · have hf := pm_it hf c7
          refine pm_aload_n C dX16_sumOf_53 rfl rfl ?_
          obtain ⟨k8, hf⟩ := pm_if hf
          refine pm_getL C dX16_sumOf_54 flX16_916 rfl k8 rfl ?_
          refine pm_bipush (v := 64) C dX16_sumOf_57 (by decide) ?_
          refine pm_iload_n C dX16_sumOf_59 rfl rfl ?_
          refine pm_isub C dX16_sumOf_60 ?_
          refine pm_lushr C dX16_sumOf_61 ?_
          cases hf
          exact pm_sub [1, 2, 3, 4, 0] rfl (ih.2.1 x0 x1 x2 x3 s0 (((pm_L h x1 2).toUInt64 >>> ((64 - x3).toInt64.toUInt64 &&& Int64.toUInt64 63)).toInt64) hi)
        · have hf := pm_ie hf c7
          refine pm_aload_n C dX16_sumOf_46 rfl rfl ?_
          obtain ⟨k9, hf⟩ := pm_if hf
          refine pm_getL C dX16_sumOf_47 flX16_916 rfl k9 rfl ?_
          refine pm_goto (tgt := 62) C dX16_sumOf_50 (by decide) ?_
          cases hf
          exact pm_sub [1, 2, 3, 4, 0] rfl (ih.2.1 x0 x1 x2 x3 s0 (pm_L h x1 2) hi)
      · have hf := pm_it hf c6
        refine pm_lconst (v := 0) C dX16_sumOf_36 (by decide) ?_
        refine pm_goto (tgt := 62) C dX16_sumOf_37 (by decide) ?_
        cases hf
        exact pm_sub [1, 2, 3, 4, 0] rfl (ih.2.1 x0 x1 x2 x3 s0 0 hi)
    refine ⟨fun x0 x1 x2 x3 x4 s0 hf => ?_, ?_⟩
    · obtain ⟨y, hf, hi⟩ := pm_iter_s hf
      have hf : tX16_sumOf_62 h x0 x1 x2 x3 x4 s0 = some y := hf
      unfold tX16_sumOf_62 at hf
      refine pm_lstore (lv' := [(5, .long s0), (0, .int x0), (1, .ref x1), (2, .ref x2), (3, .int x3), (4, .int x4)]) C dX16_sumOf_62 (pm_nl X (by decide)) rfl ?_
      refine pm_iload_n C dX16_sumOf_64 rfl rfl ?_
      refine pm_bipush (v := 64) C dX16_sumOf_65 (by decide) ?_
      refine pm_icmp_lt (tgt := 74) C dX16_sumOf_67 (by decide) (fun c10 => ?_) (fun c10 => ?_)
      · have hf := pm_it hf c10
        refine pm_aload_n C dX16_sumOf_74 rfl rfl ?_
        obtain ⟨k11, hf⟩ := pm_if hf
        refine pm_getL C dX16_sumOf_75 flX16_916 rfl k11 rfl ?_
        refine pm_iload_n C dX16_sumOf_78 rfl rfl ?_
        refine pm_lshl C dX16_sumOf_79 ?_
        obtain ⟨y12, e13, hf⟩ := pm_lt hf
        refine pm_topL e13 ?_
        refine pm_lstore (lv' := [(7, .long y12), (5, .long s0), (0, .int x0), (1, .ref x1), (2, .ref x2), (3, .int x3), (4, .int x4)]) C dX16_sumOf_80 (pm_nl X (by decide)) rfl ?_
        refine pm_aload_n C dX16_sumOf_82 rfl rfl ?_
        obtain ⟨k14, hf⟩ := pm_if hf
        refine pm_getL C dX16_sumOf_83 flX16_916 rfl k14 rfl ?_
        obtain ⟨y15, e16, hf⟩ := pm_lt hf
        refine pm_topL e16 ?_
        refine pm_lstore (lv' := [(9, .long y15), (7, .long y12), (5, .long s0), (0, .int x0), (1, .ref x1), (2, .ref x2), (3, .int x3), (4, .int x4)]) C dX16_sumOf_86 (pm_nl X (by decide)) rfl ?_
        refine pm_bipush (v := 64) C dX16_sumOf_88 (by decide) ?_
        refine pm_istore (lv' := [(11, .int 64), (9, .long y15), (7, .long y12), (5, .long s0), (0, .int x0), (1, .ref x1), (2, .ref x2), (3, .int x3), (4, .int x4)]) C dX16_sumOf_90 (pm_nl X (by decide)) rfl ?_
        cases hf
        exact pm_sub [4, 5, 6, 7, 8, 3, 2, 1, 0] rfl (ih.2.2.1 x0 x1 x2 x3 x4 s0 y12 y15 64 hi)
      · have hf := pm_ie hf c10
        refine pm_lconst (v := 0) C dX16_sumOf_70 (by decide) ?_
        refine pm_goto (tgt := 80) C dX16_sumOf_71 (by decide) ?_
        refine pm_lstore (lv' := [(7, .long 0), (5, .long s0), (0, .int x0), (1, .ref x1), (2, .ref x2), (3, .int x3), (4, .int x4)]) C dX16_sumOf_80 (pm_nl X (by decide)) rfl ?_
        refine pm_aload_n C dX16_sumOf_82 rfl rfl ?_
        obtain ⟨k17, hf⟩ := pm_if hf
        refine pm_getL C dX16_sumOf_83 flX16_916 rfl k17 rfl ?_
        obtain ⟨y18, e19, hf⟩ := pm_lt hf
        refine pm_topL e19 ?_
        refine pm_lstore (lv' := [(9, .long y18), (7, .long 0), (5, .long s0), (0, .int x0), (1, .ref x1), (2, .ref x2), (3, .int x3), (4, .int x4)]) C dX16_sumOf_86 (pm_nl X (by decide)) rfl ?_
        refine pm_bipush (v := 64) C dX16_sumOf_88 (by decide) ?_
        refine pm_istore (lv' := [(11, .int 64), (9, .long y18), (7, .long 0), (5, .long s0), (0, .int x0), (1, .ref x1), (2, .ref x2), (3, .int x3), (4, .int x4)]) C dX16_sumOf_90 (pm_nl X (by decide)) rfl ?_
        cases hf
        exact pm_sub [4, 5, 6, 7, 8, 3, 2, 1, 0] rfl (ih.2.2.1 x0 x1 x2 x3 x4 s0 0 y18 64 hi)
    refine ⟨fun x0 x1 x2 x3 x4 x5 x7 x9 x11 hf => ?_, ?_⟩
    · obtain ⟨y, hf, hi⟩ := pm_iter_s hf
      have hf : tX16_sumOf_92 h x0 x1 x2 x3 x4 x5 x7 x9 x11 = some y := hf
      unfold tX16_sumOf_92 at hf
      refine pm_iload C dX16_sumOf_92 rfl ?_
      refine pm_iload_n C dX16_sumOf_94 rfl rfl ?_
      refine pm_icmp_ge (tgt := 122) C dX16_sumOf_95 (by decide) (fun c20 => ?_) (fun c20 => ?_)
      · have hf := pm_it hf c20
        cases hf
        exact pm_sub [0, 1, 2, 4, 5, 6, 7] rfl (ih.2.2.2.1 x0 x1 x2 x4 x5 x7 x9 hi)
      · have hf := pm_ie hf c20
        refine pm_lload C dX16_sumOf_98 rfl ?_
        refine pm_lconst (v := 1) C dX16_sumOf_100 (by decide) ?_
        refine pm_lcmp C dX16_sumOf_101 ?_
        refine pm_if_le (tgt := 122) C dX16_sumOf_102 (by decide) (fun c21 => ?_) (fun c21 => ?_)
        · have hf := pm_it hf ((pm_lg_le _ _).mp c21)
          cases hf
          exact pm_sub [0, 1, 2, 4, 5, 6, 7] rfl (ih.2.2.2.1 x0 x1 x2 x4 x5 x7 x9 hi)
        · have hf := pm_ie hf ((fun z => c21 ((pm_lg_le _ _).mpr z)))
          refine pm_lload C dX16_sumOf_105 rfl ?_
          refine pm_iconst (v := 1) C dX16_sumOf_107 (by decide) ?_
          refine pm_lushr C dX16_sumOf_108 ?_
          refine pm_lload C dX16_sumOf_109 rfl ?_
          refine pm_lconst (v := 1) C dX16_sumOf_111 (by decide) ?_
          refine pm_land C dX16_sumOf_112 ?_
          refine pm_lor C dX16_sumOf_113 ?_
          obtain ⟨y22, e23, hf⟩ := pm_lt hf
          refine pm_topL e23 ?_
          refine pm_lstore (lv' := [(9, .long y22), (0, .int x0), (1, .ref x1), (2, .ref x2), (3, .int x3), (4, .int x4), (5, .long x5), (7, .long x7), (11, .int x11)]) C dX16_sumOf_114 (pm_nl X (by decide)) rfl ?_
          obtain ⟨y24, e25, hf⟩ := pm_lt hf
          refine pm_iinc (v := y24) (lv' := [(11, .int y24), (9, .long y22), (0, .int x0), (1, .ref x1), (2, .ref x2), (3, .int x3), (4, .int x4), (5, .long x5), (7, .long x7)]) C dX16_sumOf_116 rfl ((congrArg (x11 + ·) (by decide : Int32.ofInt 1 = 1)).trans e25) (pm_nl X (by decide)) rfl ?_
          refine pm_goto (tgt := 92) C dX16_sumOf_119 (by decide) ?_
          cases hf
          exact pm_sub [2, 3, 4, 5, 6, 7, 8, 1, 0] rfl (ih.2.2.1 x0 x1 x2 x3 x4 x5 x7 y22 y24 hi)
    refine ⟨fun x0 x1 x2 x4 x5 x7 x9 hf => ?_, ?_⟩
    · obtain ⟨y, hf, hi⟩ := pm_iter_s hf
      have hf : tX16_sumOf_122 h x0 x1 x2 x4 x5 x7 x9 = some y := hf
      unfold tX16_sumOf_122 at hf
      refine pm_aload_n C dX16_sumOf_122 rfl rfl ?_
      obtain ⟨k26, hf⟩ := pm_if hf
      refine pm_getI C dX16_sumOf_123 flX16_921 rfl k26 rfl ?_
      refine pm_aload_n C dX16_sumOf_126 rfl rfl ?_
      obtain ⟨k27, hf⟩ := pm_if hf
      refine pm_getI C dX16_sumOf_127 flX16_921 rfl k27 rfl ?_
      refine pm_icmp_ne (tgt := 173) C dX16_sumOf_130 (by decide) (fun c28 => ?_) (fun c28 => ?_)
      · have hf := pm_ie hf c28
        refine pm_lload C dX16_sumOf_173 rfl ?_
        refine pm_lconst (v := 0) C dX16_sumOf_175 (by decide) ?_
        refine pm_lcmp C dX16_sumOf_176 ?_
        refine pm_if_ne (tgt := 190) C dX16_sumOf_177 (by decide) (fun c29 => ?_) (fun c29 => ?_)
        · have hf := pm_ie hf ((fun z => c29 ((pm_lg_eq _ _).mpr z)))
          cases hf
          exact pm_sub [0, 1, 2, 3, 4, 5, 6] rfl (ih.2.2.2.2 x0 x1 x2 x4 x5 x7 x9 hi)
        · have hf := pm_it hf ((pm_lg_eq _ _).mp c29)
          refine pm_lload C dX16_sumOf_180 rfl ?_
          refine pm_lload C dX16_sumOf_182 rfl ?_
          refine pm_lcmp C dX16_sumOf_184 ?_
          refine pm_if_ne (tgt := 190) C dX16_sumOf_185 (by decide) (fun c30 => ?_) (fun c30 => ?_)
          · have hf := pm_ie hf ((fun z => c30 ((pm_lg_eq _ _).mpr z)))
            cases hf
            exact pm_sub [0, 1, 2, 3, 4, 5, 6] rfl (ih.2.2.2.2 x0 x1 x2 x4 x5 x7 x9 hi)
          · have hf := pm_it hf ((pm_lg_eq _ _).mp c30)
            refine pm_lconst (v := 0) C dX16_sumOf_188 (by decide) ?_
            cases hf
            cases hi
            exact pm_lret C X dX16_sumOf_189 rfl (Nat.le_refl _) (Nat.le_refl _) q
      · have hf := pm_it hf c28
        refine pm_lload C dX16_sumOf_133 rfl ?_
        refine pm_lload C dX16_sumOf_135 rfl ?_
        refine pm_ladd C dX16_sumOf_137 ?_
        obtain ⟨y31, e32, hf⟩ := pm_lt hf
        refine pm_topL e32 ?_
        refine pm_lstore (lv' := [(11, .long y31), (0, .int x0), (1, .ref x1), (2, .ref x2), (4, .int x4), (5, .long x5), (7, .long x7), (9, .long x9)]) C dX16_sumOf_138 (pm_nl X (by decide)) rfl ?_
        refine pm_iload_n C dX16_sumOf_140 rfl rfl ?_
        refine pm_aload_n C dX16_sumOf_141 rfl rfl ?_
        refine pm_getI C dX16_sumOf_142 flX16_921 rfl k26 rfl ?_
        refine pm_lload C dX16_sumOf_145 rfl ?_
        refine pm_lload C dX16_sumOf_147 rfl ?_
        obtain ⟨v33, e34, hf⟩ := pm_lt hf
        refine pm_callS (as := [.long y31, .long x7]) (st := [.int (pm_I h x1 0), .int x0]) C X dX16_sumOf_149 lnX16_827 myX16_isBelow stX16_isBelow ⟨by decide, by decide⟩ rfl rfl (Nat.le_of_ble_eq_true rfl) (Nat.le_refl _) (Nat.le_refl _) (ctX16_isBelow e34 ?_)
        show pm_G g 152 [(11, .long y31), (0, .int x0), (1, .ref x1), (2, .ref x2), (4, .int x4), (5, .long x5), (7, .long x7), (9, .long x9)] [.int v33, .int (pm_I h x1 0), .int x0] h 0 0
        refine pm_if_eq (tgt := 162) C dX16_sumOf_152 (by decide) (fun c35 => ?_) (fun c35 => ?_)
        · have hf := pm_it hf c35
          refine pm_lload C dX16_sumOf_162 rfl ?_
          refine pm_lload C dX16_sumOf_164 rfl ?_
          refine pm_iload C dX16_sumOf_166 rfl ?_
          refine pm_iconst (v := 0) C dX16_sumOf_168 (by decide) ?_
          obtain ⟨v36, e37, hf⟩ := pm_bd hf
          refine pm_callS (as := [.int x0, .int (pm_I h x1 0), .long x5, .long y31, .int x4, .int 0]) (st := []) C X dX16_sumOf_169 lnX16_924 myX16_rounded stX16_rounded ⟨by decide, by decide⟩ rfl rfl (Nat.le_of_ble_eq_true rfl) (Nat.le_refl _) (Nat.le_refl _) (ctX16_rounded e37 ?_)
          show pm_G g 172 [(11, .long y31), (0, .int x0), (1, .ref x1), (2, .ref x2), (4, .int x4), (5, .long x5), (7, .long x7), (9, .long x9)] [.long v36] h 0 0
          cases hf
          cases hi
          exact pm_lret C X dX16_sumOf_172 rfl (Nat.le_refl _) (Nat.le_refl _) q
        · have hf := pm_ie hf c35
          refine pm_lload C dX16_sumOf_155 rfl ?_
          refine pm_lconst (v := 1) C dX16_sumOf_157 (by decide) ?_
          refine pm_ladd C dX16_sumOf_158 ?_
          refine pm_goto (tgt := 164) C dX16_sumOf_159 (by decide) ?_
          refine pm_lload C dX16_sumOf_164 rfl ?_
          refine pm_iload C dX16_sumOf_166 rfl ?_
          refine pm_iconst (v := 0) C dX16_sumOf_168 (by decide) ?_
          obtain ⟨v38, e39, hf⟩ := pm_bd hf
          refine pm_callS (as := [.int x0, .int (pm_I h x1 0), .long (x5 + 1), .long y31, .int x4, .int 0]) (st := []) C X dX16_sumOf_169 lnX16_924 myX16_rounded stX16_rounded ⟨by decide, by decide⟩ rfl rfl (Nat.le_of_ble_eq_true rfl) (Nat.le_refl _) (Nat.le_refl _) (ctX16_rounded e39 ?_)
          show pm_G g 172 [(11, .long y31), (0, .int x0), (1, .ref x1), (2, .ref x2), (4, .int x4), (5, .long x5), (7, .long x7), (9, .long x9)] [.long v38] h 0 0
          cases hf
          cases hi
          exact pm_lret C X dX16_sumOf_172 rfl (Nat.le_refl _) (Nat.le_refl _) q
    refine fun x0 x1 x2 x4 x5 x7 x9 hf => ?_
    obtain ⟨y, hf, hi⟩ := pm_iter_s hf
    have hf : tX16_sumOf_190 h x0 x1 x2 x4 x5 x7 x9 = some y := hf
    unfold tX16_sumOf_190 at hf
    refine pm_lload C dX16_sumOf_190 rfl ?_
    refine pm_lconst (v := 0) C dX16_sumOf_192 (by decide) ?_
    refine pm_lcmp C dX16_sumOf_193 ?_
    refine pm_if_ne (tgt := 225) C dX16_sumOf_194 (by decide) (fun c40 => ?_) (fun c40 => ?_)
    · have hf := pm_ie hf ((fun z => c40 ((pm_lg_eq _ _).mpr z)))
      refine pm_iload_n C dX16_sumOf_225 rfl rfl ?_
      refine pm_aload_n C dX16_sumOf_226 rfl rfl ?_
      obtain ⟨k41, hf⟩ := pm_if hf
      refine pm_getI C dX16_sumOf_227 flX16_921 rfl k41 rfl ?_
      refine pm_lload C dX16_sumOf_230 rfl ?_
      refine pm_lload C dX16_sumOf_232 rfl ?_
      obtain ⟨v42, e43, hf⟩ := pm_lt hf
      refine pm_callS (as := [.long x7, .long x9]) (st := [.int (pm_I h x1 0), .int x0]) C X dX16_sumOf_234 lnX16_827 myX16_isBelow stX16_isBelow ⟨by decide, by decide⟩ rfl rfl (Nat.le_of_ble_eq_true rfl) (Nat.le_refl _) (Nat.le_refl _) (ctX16_isBelow e43 ?_)
      show pm_G g 237 [(0, .int x0), (1, .ref x1), (2, .ref x2), (4, .int x4), (5, .long x5), (7, .long x7), (9, .long x9)] [.int v42, .int (pm_I h x1 0), .int x0] h 0 0
      refine pm_if_eq (tgt := 247) C dX16_sumOf_237 (by decide) (fun c44 => ?_) (fun c44 => ?_)
      · have hf := pm_it hf c44
        refine pm_lload C dX16_sumOf_247 rfl ?_
        refine pm_lload C dX16_sumOf_249 rfl ?_
        refine pm_lload C dX16_sumOf_251 rfl ?_
        refine pm_lsub C dX16_sumOf_253 ?_
        refine pm_iload C dX16_sumOf_254 rfl ?_
        refine pm_iconst (v := 0) C dX16_sumOf_256 (by decide) ?_
        obtain ⟨v45, e46, hf⟩ := pm_bd hf
        refine pm_callS (as := [.int x0, .int (pm_I h x1 0), .long x5, .long (x7 - x9), .int x4, .int 0]) (st := []) C X dX16_sumOf_257 lnX16_924 myX16_rounded stX16_rounded ⟨by decide, by decide⟩ rfl rfl (Nat.le_of_ble_eq_true rfl) (Nat.le_refl _) (Nat.le_refl _) (ctX16_rounded e46 ?_)
        show pm_G g 260 [(0, .int x0), (1, .ref x1), (2, .ref x2), (4, .int x4), (5, .long x5), (7, .long x7), (9, .long x9)] [.long v45] h 0 0
        cases hf
        cases hi
        exact pm_lret C X dX16_sumOf_260 rfl (Nat.le_refl _) (Nat.le_refl _) q
      · have hf := pm_ie hf c44
        refine pm_lload C dX16_sumOf_240 rfl ?_
        refine pm_lconst (v := 1) C dX16_sumOf_242 (by decide) ?_
        refine pm_lsub C dX16_sumOf_243 ?_
        refine pm_goto (tgt := 249) C dX16_sumOf_244 (by decide) ?_
        refine pm_lload C dX16_sumOf_249 rfl ?_
        refine pm_lload C dX16_sumOf_251 rfl ?_
        refine pm_lsub C dX16_sumOf_253 ?_
        refine pm_iload C dX16_sumOf_254 rfl ?_
        refine pm_iconst (v := 0) C dX16_sumOf_256 (by decide) ?_
        obtain ⟨v47, e48, hf⟩ := pm_bd hf
        refine pm_callS (as := [.int x0, .int (pm_I h x1 0), .long (x5 - 1), .long (x7 - x9), .int x4, .int 0]) (st := []) C X dX16_sumOf_257 lnX16_924 myX16_rounded stX16_rounded ⟨by decide, by decide⟩ rfl rfl (Nat.le_of_ble_eq_true rfl) (Nat.le_refl _) (Nat.le_refl _) (ctX16_rounded e48 ?_)
        show pm_G g 260 [(0, .int x0), (1, .ref x1), (2, .ref x2), (4, .int x4), (5, .long x5), (7, .long x7), (9, .long x9)] [.long v47] h 0 0
        cases hf
        cases hi
        exact pm_lret C X dX16_sumOf_260 rfl (Nat.le_refl _) (Nat.le_refl _) q
    · have hf := pm_it hf ((pm_lg_eq _ _).mp c40)
      refine pm_lload C dX16_sumOf_197 rfl ?_
      refine pm_lload C dX16_sumOf_199 rfl ?_
      obtain ⟨v49, e50, hf⟩ := pm_lt hf
      refine pm_callS (as := [.long x7, .long x9]) (st := []) C X dX16_sumOf_201 lnX16_827 myX16_isBelow stX16_isBelow ⟨by decide, by decide⟩ rfl rfl (Nat.le_of_ble_eq_true rfl) (Nat.le_refl _) (Nat.le_refl _) (ctX16_isBelow e50 ?_)
      show pm_G g 204 [(0, .int x0), (1, .ref x1), (2, .ref x2), (4, .int x4), (5, .long x5), (7, .long x7), (9, .long x9)] [.int v49] h 0 0
      refine pm_if_eq (tgt := 225) C dX16_sumOf_204 (by decide) (fun c51 => ?_) (fun c51 => ?_)
      · have hf := pm_it hf c51
        refine pm_iload_n C dX16_sumOf_225 rfl rfl ?_
        refine pm_aload_n C dX16_sumOf_226 rfl rfl ?_
        obtain ⟨k52, hf⟩ := pm_if hf
        refine pm_getI C dX16_sumOf_227 flX16_921 rfl k52 rfl ?_
        refine pm_lload C dX16_sumOf_230 rfl ?_
        refine pm_lload C dX16_sumOf_232 rfl ?_
        obtain ⟨v53, e54, hf⟩ := pm_lt hf
        refine pm_callS (as := [.long x7, .long x9]) (st := [.int (pm_I h x1 0), .int x0]) C X dX16_sumOf_234 lnX16_827 myX16_isBelow stX16_isBelow ⟨by decide, by decide⟩ rfl rfl (Nat.le_of_ble_eq_true rfl) (Nat.le_refl _) (Nat.le_refl _) (ctX16_isBelow e54 ?_)
        show pm_G g 237 [(0, .int x0), (1, .ref x1), (2, .ref x2), (4, .int x4), (5, .long x5), (7, .long x7), (9, .long x9)] [.int v53, .int (pm_I h x1 0), .int x0] h 0 0
        refine pm_if_eq (tgt := 247) C dX16_sumOf_237 (by decide) (fun c55 => ?_) (fun c55 => ?_)
        · have hf := pm_it hf c55
          refine pm_lload C dX16_sumOf_247 rfl ?_
          refine pm_lload C dX16_sumOf_249 rfl ?_
          refine pm_lload C dX16_sumOf_251 rfl ?_
          refine pm_lsub C dX16_sumOf_253 ?_
          refine pm_iload C dX16_sumOf_254 rfl ?_
          refine pm_iconst (v := 0) C dX16_sumOf_256 (by decide) ?_
          obtain ⟨v56, e57, hf⟩ := pm_bd hf
          refine pm_callS (as := [.int x0, .int (pm_I h x1 0), .long x5, .long (x7 - x9), .int x4, .int 0]) (st := []) C X dX16_sumOf_257 lnX16_924 myX16_rounded stX16_rounded ⟨by decide, by decide⟩ rfl rfl (Nat.le_of_ble_eq_true rfl) (Nat.le_refl _) (Nat.le_refl _) (ctX16_rounded e57 ?_)
          show pm_G g 260 [(0, .int x0), (1, .ref x1), (2, .ref x2), (4, .int x4), (5, .long x5), (7, .long x7), (9, .long x9)] [.long v56] h 0 0
          cases hf
          cases hi
          exact pm_lret C X dX16_sumOf_260 rfl (Nat.le_refl _) (Nat.le_refl _) q
        · have hf := pm_ie hf c55
          refine pm_lload C dX16_sumOf_240 rfl ?_
          refine pm_lconst (v := 1) C dX16_sumOf_242 (by decide) ?_
          refine pm_lsub C dX16_sumOf_243 ?_
          refine pm_goto (tgt := 249) C dX16_sumOf_244 (by decide) ?_
          refine pm_lload C dX16_sumOf_249 rfl ?_
          refine pm_lload C dX16_sumOf_251 rfl ?_
          refine pm_lsub C dX16_sumOf_253 ?_
          refine pm_iload C dX16_sumOf_254 rfl ?_
          refine pm_iconst (v := 0) C dX16_sumOf_256 (by decide) ?_
          obtain ⟨v58, e59, hf⟩ := pm_bd hf
          refine pm_callS (as := [.int x0, .int (pm_I h x1 0), .long (x5 - 1), .long (x7 - x9), .int x4, .int 0]) (st := []) C X dX16_sumOf_257 lnX16_924 myX16_rounded stX16_rounded ⟨by decide, by decide⟩ rfl rfl (Nat.le_of_ble_eq_true rfl) (Nat.le_refl _) (Nat.le_refl _) (ctX16_rounded e59 ?_)
          show pm_G g 260 [(0, .int x0), (1, .ref x1), (2, .ref x2), (4, .int x4), (5, .long x5), (7, .long x7), (9, .long x9)] [.long v58] h 0 0
          cases hf
          cases hi
          exact pm_lret C X dX16_sumOf_260 rfl (Nat.le_refl _) (Nat.le_refl _) q
      · have hf := pm_ie hf c51
        refine pm_iload_n C dX16_sumOf_207 rfl rfl ?_
        refine pm_aload_n C dX16_sumOf_208 rfl rfl ?_
        obtain ⟨k60, hf⟩ := pm_if hf
        refine pm_getI C dX16_sumOf_209 flX16_921 rfl k60 rfl ?_
        refine pm_lconst (v := 0) C dX16_sumOf_212 (by decide) ?_
        refine pm_lload C dX16_sumOf_213 rfl ?_
        refine pm_lload C dX16_sumOf_215 rfl ?_
        refine pm_lsub C dX16_sumOf_217 ?_
        refine pm_iload C dX16_sumOf_218 rfl ?_
        refine pm_iconst (v := 0) C dX16_sumOf_220 (by decide) ?_
        obtain ⟨v61, e62, hf⟩ := pm_bd hf
        refine pm_callS (as := [.int x0, .int (pm_I h x2 0), .long 0, .long (x9 - x7), .int x4, .int 0]) (st := []) C X dX16_sumOf_221 lnX16_924 myX16_rounded stX16_rounded ⟨by decide, by decide⟩ rfl rfl (Nat.le_of_ble_eq_true rfl) (Nat.le_refl _) (Nat.le_refl _) (ctX16_rounded e62 ?_)
        show pm_G g 224 [(0, .int x0), (1, .ref x1), (2, .ref x2), (4, .int x4), (5, .long x5), (7, .long x7), (9, .long x9)] [.long v61] h 0 0
        cases hf
        cases hi
        exact pm_lret C X dX16_sumOf_224 rfl (Nat.le_refl _) (Nat.le_refl _) q
set_option maxHeartbeats 4000000 in
set_option maxRecDepth 100000 in
theorem ctX16_sumOf {l : Launch} {G : pm_Gl} {h : pm_H} {p1 : Int32} {p2 : Nat} {p3 : Nat} {r : Int64} {Qr : Option Value → pm_H → Prop} (hf : fX16_sumOf h p1 p2 p3 = some r) (q : Qr (some (.long r)) h) : pm_Ct l G mX16_sumOf [.int p1, .ref p2, .ref p3] h 0 0 Qr := by
  refine pm_body pnX16 (Nat.le_of_ble_eq_true rfl) (fun g C X => ?_)
  have C : pm_C g cX16_sumOf RX16 := C
  show pm_G g 0 [(0, .int p1), (1, .ref p2), (2, .ref p3)] [] h 0 0
  unfold fX16_sumOf at hf
  refine pm_aload_n C dX16_sumOf_0 rfl rfl ?_
  obtain ⟨k1, hf⟩ := pm_if hf
  refine pm_getI C dX16_sumOf_1 flX16_913 rfl k1 rfl ?_
  refine pm_aload_n C dX16_sumOf_4 rfl rfl ?_
  obtain ⟨k2, hf⟩ := pm_if hf
  refine pm_getI C dX16_sumOf_5 flX16_913 rfl k2 rfl ?_
  refine pm_isub C dX16_sumOf_8 ?_
  obtain ⟨y3, e4, hf⟩ := pm_lt hf
  refine pm_topI e4 ?_
  refine pm_istore_n (lv' := [(3, .int y3), (0, .int p1), (1, .ref p2), (2, .ref p3)]) C dX16_sumOf_9 rfl (pm_nl X (by decide)) rfl ?_
  refine pm_iload_n C dX16_sumOf_10 rfl rfl ?_
  refine pm_bipush (v := 64) C dX16_sumOf_11 (by decide) ?_
  refine pm_icmp_le (tgt := 26) C dX16_sumOf_13 (by decide) (fun c5 => ?_) (fun c5 => ?_)
  · have hf := pm_it hf c5
    refine pm_aload_n C dX16_sumOf_26 rfl rfl ?_
    refine pm_getI C dX16_sumOf_27 flX16_913 rfl k2 rfl ?_
    obtain ⟨n, hn⟩ := pm_lim_iter hf
    exact pm_sub [1, 2, 3, 0] rfl ((lpX16_sumOf C X q n).1 p1 p2 p3 y3 (pm_I h p3 3) hn)
  · have hf := pm_ie hf c5
    refine pm_aload_n C dX16_sumOf_16 rfl rfl ?_
    refine pm_getI C dX16_sumOf_17 flX16_913 rfl k1 rfl ?_
    refine pm_bipush (v := 64) C dX16_sumOf_20 (by decide) ?_
    refine pm_isub C dX16_sumOf_22 ?_
    refine pm_goto (tgt := 30) C dX16_sumOf_23 (by decide) ?_
    obtain ⟨n, hn⟩ := pm_lim_iter hf
    exact pm_sub [1, 2, 3, 0] rfl ((lpX16_sumOf C X q n).1 p1 p2 p3 y3 ((pm_I h p2 3) - 64) hn)
theorem dX16_takesElement_0 : decode cX16_takesElement 0 = .ok (.aload_n 0, 1) := by decide +kernel
theorem dX16_takesElement_1 : decode cX16_takesElement 1 = .ok (.getfield 146, 3) := by decide +kernel
theorem dX16_takesElement_4 : decode cX16_takesElement 4 = .ok (.bipush 64, 2) := by decide +kernel
theorem dX16_takesElement_6 : decode cX16_takesElement 6 = .ok (.iload_n 1, 1) := by decide +kernel
theorem dX16_takesElement_7 : decode cX16_takesElement 7 = .ok (.imul, 1) := by decide +kernel
theorem dX16_takesElement_8 : decode cX16_takesElement 8 = .ok (.iload_n 2, 1) := by decide +kernel
theorem dX16_takesElement_9 : decode cX16_takesElement 9 = .ok (.iadd, 1) := by decide +kernel
theorem dX16_takesElement_10 : decode cX16_takesElement 10 = .ok (.aload_n 0, 1) := by decide +kernel
theorem dX16_takesElement_11 : decode cX16_takesElement 11 = .ok (.getfield 981, 3) := by decide +kernel
theorem dX16_takesElement_14 : decode cX16_takesElement 14 = .ok (.iastore, 1) := by decide +kernel
theorem dX16_takesElement_15 : decode cX16_takesElement 15 = .ok (.aload_n 0, 1) := by decide +kernel
theorem dX16_takesElement_16 : decode cX16_takesElement 16 = .ok (.getfield 149, 3) := by decide +kernel
theorem dX16_takesElement_19 : decode cX16_takesElement 19 = .ok (.bipush 64, 2) := by decide +kernel
theorem dX16_takesElement_21 : decode cX16_takesElement 21 = .ok (.iload_n 1, 1) := by decide +kernel
theorem dX16_takesElement_22 : decode cX16_takesElement 22 = .ok (.imul, 1) := by decide +kernel
theorem dX16_takesElement_23 : decode cX16_takesElement 23 = .ok (.iload_n 2, 1) := by decide +kernel
theorem dX16_takesElement_24 : decode cX16_takesElement 24 = .ok (.iadd, 1) := by decide +kernel
theorem dX16_takesElement_25 : decode cX16_takesElement 25 = .ok (.aload_n 0, 1) := by decide +kernel
theorem dX16_takesElement_26 : decode cX16_takesElement 26 = .ok (.getfield 221, 3) := by decide +kernel
theorem dX16_takesElement_29 : decode cX16_takesElement 29 = .ok (.getfield 507, 3) := by decide +kernel
theorem dX16_takesElement_32 : decode cX16_takesElement 32 = .ok (.iload_n 2, 1) := by decide +kernel
theorem dX16_takesElement_33 : decode cX16_takesElement 33 = .ok (.iaload, 1) := by decide +kernel
theorem dX16_takesElement_34 : decode cX16_takesElement 34 = .ok (.iastore, 1) := by decide +kernel
theorem dX16_takesElement_35 : decode cX16_takesElement 35 = .ok (.aload_n 0, 1) := by decide +kernel
theorem dX16_takesElement_36 : decode cX16_takesElement 36 = .ok (.aload_n 0, 1) := by decide +kernel
theorem dX16_takesElement_37 : decode cX16_takesElement 37 = .ok (.getfield 221, 3) := by decide +kernel
theorem dX16_takesElement_40 : decode cX16_takesElement 40 = .ok (.getfield 504, 3) := by decide +kernel
theorem dX16_takesElement_43 : decode cX16_takesElement 43 = .ok (.iload_n 2, 1) := by decide +kernel
theorem dX16_takesElement_44 : decode cX16_takesElement 44 = .ok (.iaload, 1) := by decide +kernel
theorem dX16_takesElement_45 : decode cX16_takesElement 45 = .ok (.putfield 594, 3) := by decide +kernel
theorem dX16_takesElement_48 : decode cX16_takesElement 48 = .ok (.iconst 0, 1) := by decide +kernel
theorem dX16_takesElement_49 : decode cX16_takesElement 49 = .ok (.istore_n 3, 1) := by decide +kernel
theorem dX16_takesElement_50 : decode cX16_takesElement 50 = .ok (.iload_n 3, 1) := by decide +kernel
theorem dX16_takesElement_51 : decode cX16_takesElement 51 = .ok (.aload_n 0, 1) := by decide +kernel
theorem dX16_takesElement_52 : decode cX16_takesElement 52 = .ok (.getfield 221, 3) := by decide +kernel
theorem dX16_takesElement_55 : decode cX16_takesElement 55 = .ok (.getfield 507, 3) := by decide +kernel
theorem dX16_takesElement_58 : decode cX16_takesElement 58 = .ok (.iload_n 2, 1) := by decide +kernel
theorem dX16_takesElement_59 : decode cX16_takesElement 59 = .ok (.iaload, 1) := by decide +kernel
theorem dX16_takesElement_60 : decode cX16_takesElement 60 = .ok (.if_icmp .ge 69, 3) := by decide +kernel
theorem dX16_takesElement_63 : decode cX16_takesElement 63 = .ok (.aload_n 0, 1) := by decide +kernel
theorem dX16_takesElement_64 : decode cX16_takesElement 64 = .ok (.getfield 155, 3) := by decide +kernel
theorem dX16_takesElement_67 : decode cX16_takesElement 67 = .ok (.aload_n 0, 1) := by decide +kernel
theorem dX16_takesElement_68 : decode cX16_takesElement 68 = .ok (.getfield 981, 3) := by decide +kernel
theorem dX16_takesElement_71 : decode cX16_takesElement 71 = .ok (.aload_n 0, 1) := by decide +kernel
theorem dX16_takesElement_72 : decode cX16_takesElement 72 = .ok (.getfield 221, 3) := by decide +kernel
theorem dX16_takesElement_75 : decode cX16_takesElement 75 = .ok (.getfield 498, 3) := by decide +kernel
theorem dX16_takesElement_78 : decode cX16_takesElement 78 = .ok (.iload_n 2, 1) := by decide +kernel
theorem dX16_takesElement_79 : decode cX16_takesElement 79 = .ok (.baload, 1) := by decide +kernel
theorem dX16_takesElement_80 : decode cX16_takesElement 80 = .ok (.ifCond .eq 16, 3) := by decide +kernel
theorem dX16_takesElement_83 : decode cX16_takesElement 83 = .ok (.aload_n 0, 1) := by decide +kernel
theorem dX16_takesElement_84 : decode cX16_takesElement 84 = .ok (.iload_n 1, 1) := by decide +kernel
theorem dX16_takesElement_85 : decode cX16_takesElement 85 = .ok (.aload_n 0, 1) := by decide +kernel
theorem dX16_takesElement_86 : decode cX16_takesElement 86 = .ok (.getfield 594, 3) := by decide +kernel
theorem dX16_takesElement_89 : decode cX16_takesElement 89 = .ok (.invokevirtual 1020, 3) := by decide +kernel
theorem dX16_takesElement_92 : decode cX16_takesElement 92 = .ok (.l2i, 1) := by decide +kernel
theorem dX16_takesElement_93 : decode cX16_takesElement 93 = .ok (.goto 19, 3) := by decide +kernel
theorem dX16_takesElement_96 : decode cX16_takesElement 96 = .ok (.aload_n 0, 1) := by decide +kernel
theorem dX16_takesElement_97 : decode cX16_takesElement 97 = .ok (.getfield 134, 3) := by decide +kernel
theorem dX16_takesElement_100 : decode cX16_takesElement 100 = .ok (.sipush 128, 3) := by decide +kernel
theorem dX16_takesElement_103 : decode cX16_takesElement 103 = .ok (.iload_n 1, 1) := by decide +kernel
theorem dX16_takesElement_104 : decode cX16_takesElement 104 = .ok (.imul, 1) := by decide +kernel
theorem dX16_takesElement_105 : decode cX16_takesElement 105 = .ok (.aload_n 0, 1) := by decide +kernel
theorem dX16_takesElement_106 : decode cX16_takesElement 106 = .ok (.invokevirtual 603, 3) := by decide +kernel
theorem dX16_takesElement_109 : decode cX16_takesElement 109 = .ok (.l2i, 1) := by decide +kernel
theorem dX16_takesElement_110 : decode cX16_takesElement 110 = .ok (.iadd, 1) := by decide +kernel
theorem dX16_takesElement_111 : decode cX16_takesElement 111 = .ok (.iaload, 1) := by decide +kernel
theorem dX16_takesElement_112 : decode cX16_takesElement 112 = .ok (.iastore, 1) := by decide +kernel
theorem dX16_takesElement_113 : decode cX16_takesElement 113 = .ok (.aload_n 0, 1) := by decide +kernel
theorem dX16_takesElement_114 : decode cX16_takesElement 114 = .ok (.dup, 1) := by decide +kernel
theorem dX16_takesElement_115 : decode cX16_takesElement 115 = .ok (.getfield 981, 3) := by decide +kernel
theorem dX16_takesElement_118 : decode cX16_takesElement 118 = .ok (.iconst 1, 1) := by decide +kernel
theorem dX16_takesElement_119 : decode cX16_takesElement 119 = .ok (.iadd, 1) := by decide +kernel
theorem dX16_takesElement_120 : decode cX16_takesElement 120 = .ok (.putfield 981, 3) := by decide +kernel
theorem dX16_takesElement_123 : decode cX16_takesElement 123 = .ok (.iinc 3 1, 3) := by decide +kernel
theorem dX16_takesElement_126 : decode cX16_takesElement 126 = .ok (.goto (-76), 3) := by decide +kernel
theorem dX16_takesElement_129 : decode cX16_takesElement 129 = .ok (.return_, 1) := by decide +kernel
noncomputable def tX16_takesElement_50 (x0 : Nat) (x1 : Int32) (x2 : Int32) (x3 : Int32) (h : pm_H) : Option (((Nat × Int32 × Int32 × Int32 × pm_H)) ⊕ pm_H) := if pm_kd h x0 = 16 then (pm_R h x0 10).bind fun v28 => if pm_kd h v28 = 14 then (pm_R h v28 40).bind fun v31 => if pm_kd h v31 = 34 then if pm_in x2 (pm_ln h v31) then if (pm_I h v31 x2.toNatClampNeg) ≤ x3 then (some (.inr (h))) else ((pm_R h x0 72).bind fun v36 => (pm_R h v28 39).bind fun v38 => if pm_kd h v38 = 32 then if pm_in x2 (pm_ln h v38) then if (pm_I h v38 x2.toNatClampNeg) = 0 then ((pm_R h x0 64).bind fun v43 => (fX16_word h x0).bind fun v45 => pm_let ((128 * x1) + v45.1.toInt32) fun y47 => if pm_kd v45.2 v43 = 34 then if pm_in y47 (pm_ln v45.2 v43) then pm_let (pm_I v45.2 v43 y47.toNatClampNeg) fun y51 => if pm_kd v45.2 v36 = 34 then if pm_in (pm_I h x0 71) (pm_ln v45.2 v36) then if pm_kd (pm_setI v45.2 v36 ((pm_I h x0 71).toNatClampNeg) y51) x0 = 16 then pm_let ((pm_I (pm_setI v45.2 v36 ((pm_I h x0 71).toNatClampNeg) y51) x0 71) + 1) fun y56 => pm_let (x3 + 1) fun y58 => some (.inl ((x0, x1, x2, y58, pm_setI (pm_setI v45.2 v36 ((pm_I h x0 71).toNatClampNeg) y51) x0 71 y56))) else none else none else none else none else none) else ((fX16_constant h x0 x1 (pm_I h x0 19)).bind fun v60 => if pm_kd v60.2 v36 = 34 then if pm_in (pm_I h x0 71) (pm_ln v60.2 v36) then if pm_kd (pm_setI v60.2 v36 ((pm_I h x0 71).toNatClampNeg) v60.1.toInt32) x0 = 16 then pm_let ((pm_I (pm_setI v60.2 v36 ((pm_I h x0 71).toNatClampNeg) v60.1.toInt32) x0 71) + 1) fun y65 => pm_let (x3 + 1) fun y67 => some (.inl ((x0, x1, x2, y67, pm_setI (pm_setI v60.2 v36 ((pm_I h x0 71).toNatClampNeg) v60.1.toInt32) x0 71 y65))) else none else none else none) else none else none) else none else none else none else none
noncomputable def sX16_takesElement : ((Nat × Int32 × Int32 × Int32 × pm_H)) → Option (((Nat × Int32 × Int32 × Int32 × pm_H)) ⊕ pm_H) := fun z => match z with
  | (x0, x1, x2, x3, h) => tX16_takesElement_50 x0 x1 x2 x3 h
noncomputable def fX16_takesElement (h : pm_H) (a0 : Nat) (p1 : Int32) (p2 : Int32) : Option pm_H := if pm_kd h a0 = 16 then (pm_R h a0 68).bind fun v2 => pm_let (pm_I h a0 71) fun y4 => if pm_kd h v2 = 34 then if pm_in ((64 * p1) + p2) (pm_ln h v2) then (pm_R (pm_setI h v2 (((64 * p1) + p2).toNatClampNeg) y4) a0 69).bind fun v8 => (pm_R (pm_setI h v2 (((64 * p1) + p2).toNatClampNeg) y4) a0 10).bind fun v10 => if pm_kd (pm_setI h v2 (((64 * p1) + p2).toNatClampNeg) y4) v10 = 14 then (pm_R (pm_setI h v2 (((64 * p1) + p2).toNatClampNeg) y4) v10 40).bind fun v13 => if pm_kd (pm_setI h v2 (((64 * p1) + p2).toNatClampNeg) y4) v13 = 34 then if pm_in p2 (pm_ln (pm_setI h v2 (((64 * p1) + p2).toNatClampNeg) y4) v13) then pm_let (pm_I (pm_setI h v2 (((64 * p1) + p2).toNatClampNeg) y4) v13 p2.toNatClampNeg) fun y17 => if pm_kd (pm_setI h v2 (((64 * p1) + p2).toNatClampNeg) y4) v8 = 34 then if pm_in ((64 * p1) + p2) (pm_ln (pm_setI h v2 (((64 * p1) + p2).toNatClampNeg) y4) v8) then (pm_R (pm_setI (pm_setI h v2 (((64 * p1) + p2).toNatClampNeg) y4) v8 (((64 * p1) + p2).toNatClampNeg) y17) v10 41).bind fun v21 => if pm_kd (pm_setI (pm_setI h v2 (((64 * p1) + p2).toNatClampNeg) y4) v8 (((64 * p1) + p2).toNatClampNeg) y17) v21 = 34 then if pm_in p2 (pm_ln (pm_setI (pm_setI h v2 (((64 * p1) + p2).toNatClampNeg) y4) v8 (((64 * p1) + p2).toNatClampNeg) y17) v21) then pm_let (pm_I (pm_setI (pm_setI h v2 (((64 * p1) + p2).toNatClampNeg) y4) v8 (((64 * p1) + p2).toNatClampNeg) y17) v21 p2.toNatClampNeg) fun y25 => pm_lim sX16_takesElement ((a0, p1, p2, 0, pm_setI (pm_setI (pm_setI h v2 (((64 * p1) + p2).toNatClampNeg) y4) v8 (((64 * p1) + p2).toNatClampNeg) y17) a0 19 y25)) else none else none else none else none else none else none else none else none else none else none
set_option maxHeartbeats 4000000 in
set_option maxRecDepth 100000 in
theorem lpX16_takesElement {g : pm_Gm} {l : Launch} {G : pm_Gl} {Qr : Option Value → pm_H → Prop} (C : pm_C g cX16_takesElement RX16) (X : pm_X g l G mX16_takesElement 0 0 Qr) {r : pm_H} (q : Qr none r) : ∀ n : Nat, (∀ (x0 : Nat) (x1 : Int32) (x2 : Int32) (x3 : Int32) (h : pm_H), pm_iter sX16_takesElement n (x0, x1, x2, x3, h) = some r → pm_G g 50 [(0, .ref x0), (1, .int x1), (2, .int x2), (3, .int x3)] [] h 0 0) := by
  intro n
  induction n with
  | zero => exact fun _ _ _ _ _ hf => (by cases hf)
  | succ n ih =>
    refine fun x0 x1 x2 x3 h hf => ?_
    obtain ⟨y, hf, hi⟩ := pm_iter_s hf
    have hf : tX16_takesElement_50 x0 x1 x2 x3 h = some y := hf
    unfold tX16_takesElement_50 at hf
    refine pm_iload_n C dX16_takesElement_50 rfl rfl ?_
    refine pm_aload_n C dX16_takesElement_51 rfl rfl ?_
    obtain ⟨k27, hf⟩ := pm_if hf
    obtain ⟨v28, e29, hf⟩ := pm_bd hf
    refine pm_getR C dX16_takesElement_52 flX16_221 rfl k27 e29 ?_
    obtain ⟨k30, hf⟩ := pm_if hf
    obtain ⟨v31, e32, hf⟩ := pm_bd hf
    refine pm_getR C dX16_takesElement_55 flX16_507 rfl k30 e32 ?_
    refine pm_iload_n C dX16_takesElement_58 rfl rfl ?_
    obtain ⟨k33, hf⟩ := pm_if hf
    obtain ⟨u34, hf⟩ := pm_if hf
    refine pm_iald C dX16_takesElement_59 k33 u34 rfl ?_
    refine pm_icmp_ge (tgt := 129) C dX16_takesElement_60 (by decide) (fun c35 => ?_) (fun c35 => ?_)
    · have hf := pm_it hf c35
      cases hf
      cases hi
      exact pm_vret C X dX16_takesElement_129 rfl (Nat.le_refl _) (Nat.le_refl _) q
    · have hf := pm_ie hf c35
      refine pm_aload_n C dX16_takesElement_63 rfl rfl ?_
      obtain ⟨v36, e37, hf⟩ := pm_bd hf
      refine pm_getR C dX16_takesElement_64 flX16_155 rfl k27 e37 ?_
      refine pm_aload_n C dX16_takesElement_67 rfl rfl ?_
      refine pm_getI C dX16_takesElement_68 flX16_981 rfl k27 rfl ?_
      refine pm_aload_n C dX16_takesElement_71 rfl rfl ?_
      refine pm_getR C dX16_takesElement_72 flX16_221 rfl k27 e29 ?_
      obtain ⟨v38, e39, hf⟩ := pm_bd hf
      refine pm_getR C dX16_takesElement_75 flX16_498 rfl k30 e39 ?_
      refine pm_iload_n C dX16_takesElement_78 rfl rfl ?_
      obtain ⟨k40, hf⟩ := pm_if hf
      obtain ⟨u41, hf⟩ := pm_if hf
      refine pm_zald C dX16_takesElement_79 k40 u41 rfl ?_
      refine pm_if_eq (tgt := 96) C dX16_takesElement_80 (by decide) (fun c42 => ?_) (fun c42 => ?_)
      · have hf := pm_it hf c42
        refine pm_aload_n C dX16_takesElement_96 rfl rfl ?_
        obtain ⟨v43, e44, hf⟩ := pm_bd hf
        refine pm_getR C dX16_takesElement_97 flX16_134 rfl k27 e44 ?_
        refine pm_sipush (v := 128) C dX16_takesElement_100 (by decide) ?_
        refine pm_iload_n C dX16_takesElement_103 rfl rfl ?_
        refine pm_imul C dX16_takesElement_104 ?_
        refine pm_aload_n C dX16_takesElement_105 rfl rfl ?_
        obtain ⟨v45, e46, hf⟩ := pm_bd hf
        refine pm_callV (as := []) (st := [.int (128 * x1), .ref v43, .int (pm_I h x0 71), .ref v36]) C X dX16_takesElement_106 lnX16_603 myX16_word viX16_word ⟨by decide, by decide⟩ rfl rfl k27 (Nat.le_of_ble_eq_true rfl) (Nat.le_refl _) (Nat.le_refl _) (ctX16_word e46 ?_)
        show pm_G g 109 [(0, .ref x0), (1, .int x1), (2, .int x2), (3, .int x3)] [.long v45.1, .int (128 * x1), .ref v43, .int (pm_I h x0 71), .ref v36] v45.2 0 0
        refine pm_l2i C dX16_takesElement_109 ?_
        refine pm_iadd C dX16_takesElement_110 ?_
        obtain ⟨y47, e48, hf⟩ := pm_lt hf
        refine pm_topI e48 ?_
        obtain ⟨k49, hf⟩ := pm_if hf
        obtain ⟨u50, hf⟩ := pm_if hf
        refine pm_iald C dX16_takesElement_111 k49 u50 rfl ?_
        obtain ⟨y51, e52, hf⟩ := pm_lt hf
        refine pm_topI e52 ?_
        obtain ⟨k53, hf⟩ := pm_if hf
        obtain ⟨u54, hf⟩ := pm_if hf
        refine pm_iast C dX16_takesElement_112 k53 u54 ?_
        refine pm_aload_n C dX16_takesElement_113 rfl rfl ?_
        refine pm_dup C dX16_takesElement_114 rfl ?_
        obtain ⟨k55, hf⟩ := pm_if hf
        refine pm_getI C dX16_takesElement_115 flX16_981 rfl k55 rfl ?_
        refine pm_iconst (v := 1) C dX16_takesElement_118 (by decide) ?_
        refine pm_iadd C dX16_takesElement_119 ?_
        obtain ⟨y56, e57, hf⟩ := pm_lt hf
        refine pm_topI e57 ?_
        refine pm_putI C dX16_takesElement_120 flX16_981 rfl rfl k55 rfl rfl ?_
        obtain ⟨y58, e59, hf⟩ := pm_lt hf
        refine pm_iinc (v := y58) (lv' := [(3, .int y58), (0, .ref x0), (1, .int x1), (2, .int x2)]) C dX16_takesElement_123 rfl ((congrArg (x3 + ·) (by decide : Int32.ofInt 1 = 1)).trans e59) (pm_nl X (by decide)) rfl ?_
        refine pm_goto (tgt := 50) C dX16_takesElement_126 (by decide) ?_
        cases hf
        exact pm_sub [1, 2, 3, 0] rfl (ih x0 x1 x2 y58 (pm_setI (pm_setI v45.2 v36 ((pm_I h x0 71).toNatClampNeg) y51) x0 71 y56) hi)
      · have hf := pm_ie hf c42
        refine pm_aload_n C dX16_takesElement_83 rfl rfl ?_
        refine pm_iload_n C dX16_takesElement_84 rfl rfl ?_
        refine pm_aload_n C dX16_takesElement_85 rfl rfl ?_
        refine pm_getI C dX16_takesElement_86 flX16_594 rfl k27 rfl ?_
        obtain ⟨v60, e61, hf⟩ := pm_bd hf
        refine pm_callV (as := [.int x1, .int (pm_I h x0 19)]) (st := [.int (pm_I h x0 71), .ref v36]) C X dX16_takesElement_89 lnX16_1020 myX16_constant viX16_constant ⟨by decide, by decide⟩ rfl rfl k27 (Nat.le_of_ble_eq_true rfl) (Nat.le_refl _) (Nat.le_refl _) (ctX16_constant e61 ?_)
        show pm_G g 92 [(0, .ref x0), (1, .int x1), (2, .int x2), (3, .int x3)] [.long v60.1, .int (pm_I h x0 71), .ref v36] v60.2 0 0
        refine pm_l2i C dX16_takesElement_92 ?_
        refine pm_goto (tgt := 112) C dX16_takesElement_93 (by decide) ?_
        obtain ⟨k62, hf⟩ := pm_if hf
        obtain ⟨u63, hf⟩ := pm_if hf
        refine pm_iast C dX16_takesElement_112 k62 u63 ?_
        refine pm_aload_n C dX16_takesElement_113 rfl rfl ?_
        refine pm_dup C dX16_takesElement_114 rfl ?_
        obtain ⟨k64, hf⟩ := pm_if hf
        refine pm_getI C dX16_takesElement_115 flX16_981 rfl k64 rfl ?_
        refine pm_iconst (v := 1) C dX16_takesElement_118 (by decide) ?_
        refine pm_iadd C dX16_takesElement_119 ?_
        obtain ⟨y65, e66, hf⟩ := pm_lt hf
        refine pm_topI e66 ?_
        refine pm_putI C dX16_takesElement_120 flX16_981 rfl rfl k64 rfl rfl ?_
        obtain ⟨y67, e68, hf⟩ := pm_lt hf
        refine pm_iinc (v := y67) (lv' := [(3, .int y67), (0, .ref x0), (1, .int x1), (2, .int x2)]) C dX16_takesElement_123 rfl ((congrArg (x3 + ·) (by decide : Int32.ofInt 1 = 1)).trans e68) (pm_nl X (by decide)) rfl ?_
        refine pm_goto (tgt := 50) C dX16_takesElement_126 (by decide) ?_
        cases hf
        exact pm_sub [1, 2, 3, 0] rfl (ih x0 x1 x2 y67 (pm_setI (pm_setI v60.2 v36 ((pm_I h x0 71).toNatClampNeg) v60.1.toInt32) x0 71 y65) hi)
set_option maxHeartbeats 4000000 in
set_option maxRecDepth 100000 in
theorem ctX16_takesElement {l : Launch} {G : pm_Gl} {h : pm_H} {a0 : Nat} {p1 : Int32} {p2 : Int32} {r : pm_H} {Qr : Option Value → pm_H → Prop} (hf : fX16_takesElement h a0 p1 p2 = some r) (q : Qr none r) : pm_Ct l G mX16_takesElement [.ref a0, .int p1, .int p2] h 0 0 Qr := by
  refine pm_body pnX16 (Nat.le_of_ble_eq_true rfl) (fun g C X => ?_)
  have C : pm_C g cX16_takesElement RX16 := C
  show pm_G g 0 [(0, .ref a0), (1, .int p1), (2, .int p2)] [] h 0 0
  unfold fX16_takesElement at hf
  refine pm_aload_n C dX16_takesElement_0 rfl rfl ?_
  obtain ⟨k1, hf⟩ := pm_if hf
  obtain ⟨v2, e3, hf⟩ := pm_bd hf
  refine pm_getR C dX16_takesElement_1 flX16_146 rfl k1 e3 ?_
  refine pm_bipush (v := 64) C dX16_takesElement_4 (by decide) ?_
  refine pm_iload_n C dX16_takesElement_6 rfl rfl ?_
  refine pm_imul C dX16_takesElement_7 ?_
  refine pm_iload_n C dX16_takesElement_8 rfl rfl ?_
  refine pm_iadd C dX16_takesElement_9 ?_
  refine pm_aload_n C dX16_takesElement_10 rfl rfl ?_
  refine pm_getI C dX16_takesElement_11 flX16_981 rfl k1 rfl ?_
  obtain ⟨y4, e5, hf⟩ := pm_lt hf
  refine pm_topI e5 ?_
  obtain ⟨k6, hf⟩ := pm_if hf
  obtain ⟨u7, hf⟩ := pm_if hf
  refine pm_iast C dX16_takesElement_14 k6 u7 ?_
  refine pm_aload_n C dX16_takesElement_15 rfl rfl ?_
  obtain ⟨v8, e9, hf⟩ := pm_bd hf
  refine pm_getR C dX16_takesElement_16 flX16_149 rfl k1 e9 ?_
  refine pm_bipush (v := 64) C dX16_takesElement_19 (by decide) ?_
  refine pm_iload_n C dX16_takesElement_21 rfl rfl ?_
  refine pm_imul C dX16_takesElement_22 ?_
  refine pm_iload_n C dX16_takesElement_23 rfl rfl ?_
  refine pm_iadd C dX16_takesElement_24 ?_
  refine pm_aload_n C dX16_takesElement_25 rfl rfl ?_
  obtain ⟨v10, e11, hf⟩ := pm_bd hf
  refine pm_getR C dX16_takesElement_26 flX16_221 rfl k1 e11 ?_
  obtain ⟨k12, hf⟩ := pm_if hf
  obtain ⟨v13, e14, hf⟩ := pm_bd hf
  refine pm_getR C dX16_takesElement_29 flX16_507 rfl k12 e14 ?_
  refine pm_iload_n C dX16_takesElement_32 rfl rfl ?_
  obtain ⟨k15, hf⟩ := pm_if hf
  obtain ⟨u16, hf⟩ := pm_if hf
  refine pm_iald C dX16_takesElement_33 k15 u16 rfl ?_
  obtain ⟨y17, e18, hf⟩ := pm_lt hf
  refine pm_topI e18 ?_
  obtain ⟨k19, hf⟩ := pm_if hf
  obtain ⟨u20, hf⟩ := pm_if hf
  refine pm_iast C dX16_takesElement_34 k19 u20 ?_
  refine pm_aload_n C dX16_takesElement_35 rfl rfl ?_
  refine pm_aload_n C dX16_takesElement_36 rfl rfl ?_
  refine pm_getR C dX16_takesElement_37 flX16_221 rfl k1 e11 ?_
  obtain ⟨v21, e22, hf⟩ := pm_bd hf
  refine pm_getR C dX16_takesElement_40 flX16_504 rfl k12 e22 ?_
  refine pm_iload_n C dX16_takesElement_43 rfl rfl ?_
  obtain ⟨k23, hf⟩ := pm_if hf
  obtain ⟨u24, hf⟩ := pm_if hf
  refine pm_iald C dX16_takesElement_44 k23 u24 rfl ?_
  obtain ⟨y25, e26, hf⟩ := pm_lt hf
  refine pm_topI e26 ?_
  refine pm_putI C dX16_takesElement_45 flX16_594 rfl rfl k1 rfl rfl ?_
  refine pm_iconst (v := 0) C dX16_takesElement_48 (by decide) ?_
  refine pm_istore_n (lv' := [(3, .int 0), (0, .ref a0), (1, .int p1), (2, .int p2)]) C dX16_takesElement_49 rfl (pm_nl X (by decide)) rfl ?_
  obtain ⟨n, hn⟩ := pm_lim_iter hf
  exact pm_sub [1, 2, 3, 0] rfl ((lpX16_takesElement C X q n) a0 p1 p2 0 (pm_setI (pm_setI (pm_setI h v2 (((64 * p1) + p2).toNatClampNeg) y4) v8 (((64 * p1) + p2).toNatClampNeg) y17) a0 19 y25) hn)
