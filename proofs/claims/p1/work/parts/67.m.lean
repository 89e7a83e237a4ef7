theorem dX1_readLocals_0 : decode cX1_readLocals 0 = .ok (.aload_n 0, 1) := by decide +kernel
theorem dX1_readLocals_1 : decode cX1_readLocals 1 = .ok (.aload_n 0, 1) := by decide +kernel
theorem dX1_readLocals_2 : decode cX1_readLocals 2 = .ok (.getfield 49, 3) := by decide +kernel
theorem dX1_readLocals_5 : decode cX1_readLocals 5 = .ok (.getfield 263, 3) := by decide +kernel
theorem dX1_readLocals_8 : decode cX1_readLocals 8 = .ok (.iconst 0, 1) := by decide +kernel
theorem dX1_readLocals_9 : decode cX1_readLocals 9 = .ok (.invokestatic 105, 3) := by decide +kernel
theorem dX1_readLocals_12 : decode cX1_readLocals 12 = .ok (.putfield 242, 3) := by decide +kernel
theorem dX1_readLocals_15 : decode cX1_readLocals 15 = .ok (.iconst 0, 1) := by decide +kernel
theorem dX1_readLocals_16 : decode cX1_readLocals 16 = .ok (.istore_n 1, 1) := by decide +kernel
theorem dX1_readLocals_17 : decode cX1_readLocals 17 = .ok (.iload_n 1, 1) := by decide +kernel
theorem dX1_readLocals_18 : decode cX1_readLocals 18 = .ok (.aload_n 0, 1) := by decide +kernel
theorem dX1_readLocals_19 : decode cX1_readLocals 19 = .ok (.getfield 242, 3) := by decide +kernel
theorem dX1_readLocals_22 : decode cX1_readLocals 22 = .ok (.if_icmp .ge 30, 3) := by decide +kernel
theorem dX1_readLocals_25 : decode cX1_readLocals 25 = .ok (.aload_n 0, 1) := by decide +kernel
theorem dX1_readLocals_26 : decode cX1_readLocals 26 = .ok (.getfield 22, 3) := by decide +kernel
theorem dX1_readLocals_29 : decode cX1_readLocals 29 = .ok (.iload_n 1, 1) := by decide +kernel
theorem dX1_readLocals_30 : decode cX1_readLocals 30 = .ok (.aload_n 0, 1) := by decide +kernel
theorem dX1_readLocals_31 : decode cX1_readLocals 31 = .ok (.getfield 49, 3) := by decide +kernel
theorem dX1_readLocals_34 : decode cX1_readLocals 34 = .ok (.getfield 263, 3) := by decide +kernel
theorem dX1_readLocals_37 : decode cX1_readLocals 37 = .ok (.iconst 2, 1) := by decide +kernel
theorem dX1_readLocals_38 : decode cX1_readLocals 38 = .ok (.iload_n 1, 1) := by decide +kernel
theorem dX1_readLocals_39 : decode cX1_readLocals 39 = .ok (.iadd, 1) := by decide +kernel
theorem dX1_readLocals_40 : decode cX1_readLocals 40 = .ok (.invokestatic 105, 3) := by decide +kernel
theorem dX1_readLocals_43 : decode cX1_readLocals 43 = .ok (.invokestatic 266, 3) := by decide +kernel
theorem dX1_readLocals_46 : decode cX1_readLocals 46 = .ok (.iinc 1 1, 3) := by decide +kernel
theorem dX1_readLocals_49 : decode cX1_readLocals 49 = .ok (.goto (-32), 3) := by decide +kernel
theorem dX1_readLocals_52 : decode cX1_readLocals 52 = .ok (.aload_n 0, 1) := by decide +kernel
theorem dX1_readLocals_53 : decode cX1_readLocals 53 = .ok (.iconst 0, 1) := by decide +kernel
theorem dX1_readLocals_54 : decode cX1_readLocals 54 = .ok (.putfield 251, 3) := by decide +kernel
theorem dX1_readLocals_57 : decode cX1_readLocals 57 = .ok (.aload_n 0, 1) := by decide +kernel
theorem dX1_readLocals_58 : decode cX1_readLocals 58 = .ok (.getfield 36, 3) := by decide +kernel
theorem dX1_readLocals_61 : decode cX1_readLocals 61 = .ok (.bipush 32, 2) := by decide +kernel
theorem dX1_readLocals_63 : decode cX1_readLocals 63 = .ok (.invokevirtual 181, 3) := by decide +kernel
theorem dX1_readLocals_66 : decode cX1_readLocals 66 = .ok (.lstore_n 1, 1) := by decide +kernel
theorem dX1_readLocals_67 : decode cX1_readLocals 67 = .ok (.lconst 0, 1) := by decide +kernel
theorem dX1_readLocals_68 : decode cX1_readLocals 68 = .ok (.lstore_n 3, 1) := by decide +kernel
theorem dX1_readLocals_69 : decode cX1_readLocals 69 = .ok (.lload_n 3, 1) := by decide +kernel
theorem dX1_readLocals_70 : decode cX1_readLocals 70 = .ok (.lload_n 1, 1) := by decide +kernel
theorem dX1_readLocals_71 : decode cX1_readLocals 71 = .ok (.lcmp, 1) := by decide +kernel
theorem dX1_readLocals_72 : decode cX1_readLocals 72 = .ok (.ifCond .ge 170, 3) := by decide +kernel
theorem dX1_readLocals_75 : decode cX1_readLocals 75 = .ok (.aload_n 0, 1) := by decide +kernel
theorem dX1_readLocals_76 : decode cX1_readLocals 76 = .ok (.getfield 36, 3) := by decide +kernel
theorem dX1_readLocals_79 : decode cX1_readLocals 79 = .ok (.getfield 270, 3) := by decide +kernel
theorem dX1_readLocals_82 : decode cX1_readLocals 82 = .ok (.ifCond .ne 160, 3) := by decide +kernel
theorem dX1_readLocals_85 : decode cX1_readLocals 85 = .ok (.aload_n 0, 1) := by decide +kernel
theorem dX1_readLocals_86 : decode cX1_readLocals 86 = .ok (.getfield 36, 3) := by decide +kernel
theorem dX1_readLocals_89 : decode cX1_readLocals 89 = .ok (.bipush 32, 2) := by decide +kernel
theorem dX1_readLocals_91 : decode cX1_readLocals 91 = .ok (.invokevirtual 181, 3) := by decide +kernel
theorem dX1_readLocals_94 : decode cX1_readLocals 94 = .ok (.aload_n 0, 1) := by decide +kernel
theorem dX1_readLocals_95 : decode cX1_readLocals 95 = .ok (.getfield 22, 3) := by decide +kernel
theorem dX1_readLocals_98 : decode cX1_readLocals 98 = .ok (.arraylength, 1) := by decide +kernel
theorem dX1_readLocals_99 : decode cX1_readLocals 99 = .ok (.aload_n 0, 1) := by decide +kernel
theorem dX1_readLocals_100 : decode cX1_readLocals 100 = .ok (.getfield 242, 3) := by decide +kernel
theorem dX1_readLocals_103 : decode cX1_readLocals 103 = .ok (.isub, 1) := by decide +kernel
theorem dX1_readLocals_104 : decode cX1_readLocals 104 = .ok (.i2l, 1) := by decide +kernel
theorem dX1_readLocals_105 : decode cX1_readLocals 105 = .ok (.invokestatic 271, 3) := by decide +kernel
theorem dX1_readLocals_108 : decode cX1_readLocals 108 = .ok (.l2i, 1) := by decide +kernel
theorem dX1_readLocals_109 : decode cX1_readLocals 109 = .ok (.istore 5, 2) := by decide +kernel
theorem dX1_readLocals_111 : decode cX1_readLocals 111 = .ok (.aload_n 0, 1) := by decide +kernel
theorem dX1_readLocals_112 : decode cX1_readLocals 112 = .ok (.getfield 36, 3) := by decide +kernel
theorem dX1_readLocals_115 : decode cX1_readLocals 115 = .ok (.invokevirtual 275, 3) := by decide +kernel
theorem dX1_readLocals_118 : decode cX1_readLocals 118 = .ok (.istore 6, 2) := by decide +kernel
theorem dX1_readLocals_120 : decode cX1_readLocals 120 = .ok (.iload 5, 2) := by decide +kernel
theorem dX1_readLocals_122 : decode cX1_readLocals 122 = .ok (.ifCond .le 70, 3) := by decide +kernel
theorem dX1_readLocals_125 : decode cX1_readLocals 125 = .ok (.iload 6, 2) := by decide +kernel
theorem dX1_readLocals_127 : decode cX1_readLocals 127 = .ok (.bipush 112, 2) := by decide +kernel
theorem dX1_readLocals_129 : decode cX1_readLocals 129 = .ok (.if_icmp .eq 10, 3) := by decide +kernel
theorem dX1_readLocals_132 : decode cX1_readLocals 132 = .ok (.iload 6, 2) := by decide +kernel
theorem dX1_readLocals_134 : decode cX1_readLocals 134 = .ok (.bipush 111, 2) := by decide +kernel
theorem dX1_readLocals_136 : decode cX1_readLocals 136 = .ok (.if_icmp .ne 56, 3) := by decide +kernel
theorem dX1_readLocals_139 : decode cX1_readLocals 139 = .ok (.aload_n 0, 1) := by decide +kernel
theorem dX1_readLocals_140 : decode cX1_readLocals 140 = .ok (.getfield 25, 3) := by decide +kernel
theorem dX1_readLocals_143 : decode cX1_readLocals 143 = .ok (.aload_n 0, 1) := by decide +kernel
theorem dX1_readLocals_144 : decode cX1_readLocals 144 = .ok (.getfield 251, 3) := by decide +kernel
theorem dX1_readLocals_147 : decode cX1_readLocals 147 = .ok (.aload_n 0, 1) := by decide +kernel
theorem dX1_readLocals_148 : decode cX1_readLocals 148 = .ok (.getfield 242, 3) := by decide +kernel
theorem dX1_readLocals_151 : decode cX1_readLocals 151 = .ok (.invokestatic 266, 3) := by decide +kernel
theorem dX1_readLocals_154 : decode cX1_readLocals 154 = .ok (.aload_n 0, 1) := by decide +kernel
theorem dX1_readLocals_155 : decode cX1_readLocals 155 = .ok (.getfield 25, 3) := by decide +kernel
theorem dX1_readLocals_158 : decode cX1_readLocals 158 = .ok (.aload_n 0, 1) := by decide +kernel
theorem dX1_readLocals_159 : decode cX1_readLocals 159 = .ok (.getfield 251, 3) := by decide +kernel
theorem dX1_readLocals_162 : decode cX1_readLocals 162 = .ok (.iconst 1, 1) := by decide +kernel
theorem dX1_readLocals_163 : decode cX1_readLocals 163 = .ok (.iadd, 1) := by decide +kernel
theorem dX1_readLocals_164 : decode cX1_readLocals 164 = .ok (.aload_n 0, 1) := by decide +kernel
theorem dX1_readLocals_165 : decode cX1_readLocals 165 = .ok (.getfield 242, 3) := by decide +kernel
theorem dX1_readLocals_168 : decode cX1_readLocals 168 = .ok (.iload 5, 2) := by decide +kernel
theorem dX1_readLocals_170 : decode cX1_readLocals 170 = .ok (.iadd, 1) := by decide +kernel
theorem dX1_readLocals_171 : decode cX1_readLocals 171 = .ok (.invokestatic 266, 3) := by decide +kernel
theorem dX1_readLocals_174 : decode cX1_readLocals 174 = .ok (.aload_n 0, 1) := by decide +kernel
theorem dX1_readLocals_175 : decode cX1_readLocals 175 = .ok (.aload_n 0, 1) := by decide +kernel
theorem dX1_readLocals_176 : decode cX1_readLocals 176 = .ok (.getfield 251, 3) := by decide +kernel
theorem dX1_readLocals_179 : decode cX1_readLocals 179 = .ok (.iconst 2, 1) := by decide +kernel
theorem dX1_readLocals_180 : decode cX1_readLocals 180 = .ok (.iadd, 1) := by decide +kernel
theorem dX1_readLocals_181 : decode cX1_readLocals 181 = .ok (.aload_n 0, 1) := by decide +kernel
theorem dX1_readLocals_182 : decode cX1_readLocals 182 = .ok (.getfield 25, 3) := by decide +kernel
theorem dX1_readLocals_185 : decode cX1_readLocals 185 = .ok (.arraylength, 1) := by decide +kernel
theorem dX1_readLocals_186 : decode cX1_readLocals 186 = .ok (.invokestatic 278, 3) := by decide +kernel
theorem dX1_readLocals_189 : decode cX1_readLocals 189 = .ok (.putfield 251, 3) := by decide +kernel
theorem dX1_readLocals_192 : decode cX1_readLocals 192 = .ok (.iconst 0, 1) := by decide +kernel
theorem dX1_readLocals_193 : decode cX1_readLocals 193 = .ok (.istore 7, 2) := by decide +kernel
theorem dX1_readLocals_195 : decode cX1_readLocals 195 = .ok (.iload 7, 2) := by decide +kernel
theorem dX1_readLocals_197 : decode cX1_readLocals 197 = .ok (.iload 5, 2) := by decide +kernel
theorem dX1_readLocals_199 : decode cX1_readLocals 199 = .ok (.if_icmp .ge 25, 3) := by decide +kernel
theorem dX1_readLocals_202 : decode cX1_readLocals 202 = .ok (.aload_n 0, 1) := by decide +kernel
theorem dX1_readLocals_203 : decode cX1_readLocals 203 = .ok (.getfield 22, 3) := by decide +kernel
theorem dX1_readLocals_206 : decode cX1_readLocals 206 = .ok (.aload_n 0, 1) := by decide +kernel
theorem dX1_readLocals_207 : decode cX1_readLocals 207 = .ok (.getfield 242, 3) := by decide +kernel
theorem dX1_readLocals_210 : decode cX1_readLocals 210 = .ok (.iload 7, 2) := by decide +kernel
theorem dX1_readLocals_212 : decode cX1_readLocals 212 = .ok (.iadd, 1) := by decide +kernel
theorem dX1_readLocals_213 : decode cX1_readLocals 213 = .ok (.iload 6, 2) := by decide +kernel
theorem dX1_readLocals_215 : decode cX1_readLocals 215 = .ok (.invokestatic 266, 3) := by decide +kernel
theorem dX1_readLocals_218 : decode cX1_readLocals 218 = .ok (.iinc 7 1, 3) := by decide +kernel
theorem dX1_readLocals_221 : decode cX1_readLocals 221 = .ok (.goto (-26), 3) := by decide +kernel
theorem dX1_readLocals_224 : decode cX1_readLocals 224 = .ok (.aload_n 0, 1) := by decide +kernel
theorem dX1_readLocals_225 : decode cX1_readLocals 225 = .ok (.dup, 1) := by decide +kernel
theorem dX1_readLocals_226 : decode cX1_readLocals 226 = .ok (.getfield 242, 3) := by decide +kernel
theorem dX1_readLocals_229 : decode cX1_readLocals 229 = .ok (.iload 5, 2) := by decide +kernel
theorem dX1_readLocals_231 : decode cX1_readLocals 231 = .ok (.iadd, 1) := by decide +kernel
theorem dX1_readLocals_232 : decode cX1_readLocals 232 = .ok (.putfield 242, 3) := by decide +kernel
theorem dX1_readLocals_235 : decode cX1_readLocals 235 = .ok (.lload_n 3, 1) := by decide +kernel
theorem dX1_readLocals_236 : decode cX1_readLocals 236 = .ok (.lconst 1, 1) := by decide +kernel
theorem dX1_readLocals_237 : decode cX1_readLocals 237 = .ok (.ladd, 1) := by decide +kernel
theorem dX1_readLocals_238 : decode cX1_readLocals 238 = .ok (.lstore_n 3, 1) := by decide +kernel
theorem dX1_readLocals_239 : decode cX1_readLocals 239 = .ok (.goto (-170), 3) := by decide +kernel
theorem dX1_readLocals_242 : decode cX1_readLocals 242 = .ok (.return_, 1) := by decide +kernel
noncomputable def tX1_readLocals_17 (x0 : Nat) (x1 : Int32) (h : pm_H) : Option (((Nat × Int32 × pm_H) ⊕ (Nat × Int64 × Int64 × pm_H) ⊕ (Nat × Int64 × Int64 × Int32 × Int32 × Int32 × pm_H)) ⊕ pm_H) := if pm_kd h x0 = 1 then if (pm_I h x0 12) ≤ x1 then ((pm_R (pm_setI h x0 14 0) x0 3).bind fun v11 => if pm_kd (pm_setI h x0 14 0) v11 = 9 then (fX9_number (pm_setI h x0 14 0) v11 32).bind fun v14 => some (.inl (.inr (.inl ((x0, v14.1, 0, v14.2))))) else none) else ((pm_R h x0 11).bind fun v16 => (pm_R h x0 17).bind fun v18 => if pm_kd h v18 = 0 then (pm_R h v18 0).bind fun v21 => (fX12_item h v21 (2 + x1)).bind fun v23 => (fX12_setItem h v16 x1 v23).bind fun v25 => pm_let (x1 + 1) fun y27 => some (.inl (.inl ((x0, y27, v25)))) else none) else none
noncomputable def tX1_readLocals_69 (x0 : Nat) (x1 : Int64) (x3 : Int64) (h : pm_H) : Option (((Nat × Int32 × pm_H) ⊕ (Nat × Int64 × Int64 × pm_H) ⊕ (Nat × Int64 × Int64 × Int32 × Int32 × Int32 × pm_H)) ⊕ pm_H) := if x1 ≤ x3 then (some (.inr (h))) else (if pm_kd h x0 = 1 then (pm_R h x0 3).bind fun v31 => if pm_kd h v31 = 9 then if (pm_I h v31 3) = 0 then ((fX9_number h v31 32).bind fun v35 => if pm_kd v35.2 x0 = 1 then (pm_R v35.2 x0 11).bind fun v38 => if pm_kd v35.2 v38 = 34 then pm_let (((Int32.ofNat (pm_ln v35.2 v38)) - (pm_I v35.2 x0 12)).toInt64) fun y41 => pm_let (((if y41 < v35.1 then y41 else v35.1)).toInt32) fun y43 => (pm_R v35.2 x0 3).bind fun v45 => if pm_kd v35.2 v45 = 9 then (fX9_next v35.2 v45).bind fun v48 => if y43 ≤ 0 then (some (.inl (.inr (.inr ((x0, x1, x3, y43, v48.1, 0, v48.2)))))) else (if v48.1 = 112 then (if pm_kd v48.2 x0 = 1 then (pm_R v48.2 x0 13).bind fun v53 => (fX12_setItem v48.2 v53 (pm_I v48.2 x0 14) (pm_I v48.2 x0 12)).bind fun v55 => if pm_kd v55 x0 = 1 then (pm_R v55 x0 13).bind fun v58 => (fX12_setItem v55 v58 ((pm_I v55 x0 14) + 1) ((pm_I v55 x0 12) + y43)).bind fun v60 => if pm_kd v60 x0 = 1 then (pm_R v60 x0 13).bind fun v63 => if pm_kd v60 v63 = 34 then pm_let (Int32.ofNat (pm_ln v60 v63)) fun y66 => pm_let (if y66 < ((pm_I v60 x0 14) + 2) then y66 else ((pm_I v60 x0 14) + 2)) fun y68 => some (.inl (.inr (.inr ((x0, x1, x3, y43, v48.1, 0, pm_setI v60 x0 14 y68))))) else none else none else none else none) else (if v48.1 = 111 then (if pm_kd v48.2 x0 = 1 then (pm_R v48.2 x0 13).bind fun v72 => (fX12_setItem v48.2 v72 (pm_I v48.2 x0 14) (pm_I v48.2 x0 12)).bind fun v74 => if pm_kd v74 x0 = 1 then (pm_R v74 x0 13).bind fun v77 => (fX12_setItem v74 v77 ((pm_I v74 x0 14) + 1) ((pm_I v74 x0 12) + y43)).bind fun v79 => if pm_kd v79 x0 = 1 then (pm_R v79 x0 13).bind fun v82 => if pm_kd v79 v82 = 34 then pm_let (Int32.ofNat (pm_ln v79 v82)) fun y85 => pm_let (if y85 < ((pm_I v79 x0 14) + 2) then y85 else ((pm_I v79 x0 14) + 2)) fun y87 => some (.inl (.inr (.inr ((x0, x1, x3, y43, v48.1, 0, pm_setI v79 x0 14 y87))))) else none else none else none else none) else (some (.inl (.inr (.inr ((x0, x1, x3, y43, v48.1, 0, v48.2)))))))) else none else none else none) else (some (.inr (h))) else none else none)
noncomputable def tX1_readLocals_195 (x0 : Nat) (x1 : Int64) (x3 : Int64) (x5 : Int32) (x6 : Int32) (x7 : Int32) (h : pm_H) : Option (((Nat × Int32 × pm_H) ⊕ (Nat × Int64 × Int64 × pm_H) ⊕ (Nat × Int64 × Int64 × Int32 × Int32 × Int32 × pm_H)) ⊕ pm_H) := if x5 ≤ x7 then (if pm_kd h x0 = 1 then pm_let ((pm_I h x0 12) + x5) fun y91 => pm_let (x3 + 1) fun y93 => some (.inl (.inr (.inl ((x0, x1, y93, pm_setI h x0 12 y91))))) else none) else (if pm_kd h x0 = 1 then (pm_R h x0 11).bind fun v96 => (fX12_setItem h v96 ((pm_I h x0 12) + x7) x6).bind fun v98 => pm_let (x7 + 1) fun y100 => some (.inl (.inr (.inr ((x0, x1, x3, x5, x6, y100, v98))))) else none)
noncomputable def sX1_readLocals : ((Nat × Int32 × pm_H) ⊕ (Nat × Int64 × Int64 × pm_H) ⊕ (Nat × Int64 × Int64 × Int32 × Int32 × Int32 × pm_H)) → Option (((Nat × Int32 × pm_H) ⊕ (Nat × Int64 × Int64 × pm_H) ⊕ (Nat × Int64 × Int64 × Int32 × Int32 × Int32 × pm_H)) ⊕ pm_H) := fun z => match z with
  | .inl (x0, x1, h) => tX1_readLocals_17 x0 x1 h
  | .inr (.inl (x0, x1, x3, h)) => tX1_readLocals_69 x0 x1 x3 h
  | .inr (.inr (x0, x1, x3, x5, x6, x7, h)) => tX1_readLocals_195 x0 x1 x3 x5 x6 x7 h
noncomputable def fX1_readLocals (h : pm_H) (a0 : Nat) : Option pm_H := if pm_kd h a0 = 1 then (pm_R h a0 17).bind fun v2 => if pm_kd h v2 = 0 then (pm_R h v2 0).bind fun v5 => (fX12_item h v5 0).bind fun v7 => pm_lim sX1_readLocals (.inl ((a0, 0, pm_setI h a0 12 v7))) else none else none
set_option maxHeartbeats 4000000 in
set_option maxRecDepth 100000 in
theorem lpX1_readLocals {g : pm_Gm} {l : Launch} {G : pm_Gl} {Qr : Option Value → pm_H → Prop} (C : pm_C g cX1_readLocals RX1) (X : pm_X g l G mX1_readLocals 0 0 Qr) {r : pm_H} (q : Qr none r) : ∀ n : Nat, (∀ (x0 : Nat) (x1 : Int32) (h : pm_H), pm_iter sX1_readLocals n (.inl (x0, x1, h)) = some r → pm_G g 17 [(0, .ref x0), (1, .int x1)] [] h 0 0) ∧ (∀ (x0 : Nat) (x1 : Int64) (x3 : Int64) (h : pm_H), pm_iter sX1_readLocals n (.inr (.inl (x0, x1, x3, h))) = some r → pm_G g 69 [(0, .ref x0), (1, .long x1), (3, .long x3)] [] h 0 0) ∧ (∀ (x0 : Nat) (x1 : Int64) (x3 : Int64) (x5 : Int32) (x6 : Int32) (x7 : Int32) (h : pm_H), pm_iter sX1_readLocals n (.inr (.inr (x0, x1, x3, x5, x6, x7, h))) = some r → pm_G g 195 [(0, .ref x0), (1, .long x1), (3, .long x3), (5, .int x5), (6, .int x6), (7, .int x7)] [] h 0 0) := by
  intro n
  induction n with
  | zero => exact ⟨fun _ _ _ hf => (by cases hf), fun _ _ _ _ hf => (by cases hf), fun _ _ _ _ _ _ _ hf => (by cases hf)⟩
  | succ n ih =>
    refine ⟨fun x0 x1 h hf => ?_, ?_⟩
    · obtain ⟨y, hf, hi⟩ := pm_iter_s hf
      have hf : tX1_readLocals_17 x0 x1 h = some y := hf
      unfold tX1_readLocals_17 at hf
      refine pm_iload_n C dX1_readLocals_17 rfl rfl ?_
      refine pm_aload_n C dX1_readLocals_18 rfl rfl ?_
      obtain ⟨k9, hf⟩ := pm_if hf
      refine pm_getI C dX1_readLocals_19 flX1_242 rfl k9 rfl ?_
      refine pm_icmp_ge (tgt := 52) C dX1_readLocals_22 (by decide) (fun c10 => ?_) (fun c10 => ?_)
      · have hf := pm_it hf c10
        refine pm_aload_n C dX1_readLocals_52 rfl rfl ?_
        refine pm_iconst (v := 0) C dX1_readLocals_53 (by decide) ?_
        refine pm_putI C dX1_readLocals_54 flX1_251 rfl rfl k9 rfl rfl ?_
        refine pm_aload_n C dX1_readLocals_57 rfl rfl ?_
        obtain ⟨v11, e12, hf⟩ := pm_bd hf
        refine pm_getR C dX1_readLocals_58 flX1_36 rfl k9 e12 ?_
        refine pm_bipush (v := 32) C dX1_readLocals_61 (by decide) ?_
        obtain ⟨k13, hf⟩ := pm_if hf
        obtain ⟨v14, e15, hf⟩ := pm_bd hf
        refine pm_callV (as := [.int 32]) (st := []) C X dX1_readLocals_63 lnX1_181 myX9_number viX9_number ⟨by decide, by decide⟩ rfl rfl k13 (Nat.le_of_ble_eq_true rfl) (Nat.le_refl _) (Nat.le_refl _) (ctX9_number e15 ?_)
        show pm_G g 66 [(0, .ref x0), (1, .int x1)] [.long v14.1] v14.2 0 0
        refine pm_lstore_n (lv' := [(1, .long v14.1), (0, .ref x0)]) C dX1_readLocals_66 rfl (pm_nl X (by decide)) rfl ?_
        refine pm_lconst (v := 0) C dX1_readLocals_67 (by decide) ?_
        refine pm_lstore_n (lv' := [(3, .long 0), (1, .long v14.1), (0, .ref x0)]) C dX1_readLocals_68 rfl (pm_nl X (by decide)) rfl ?_
        cases hf
        exact pm_sub [2, 1, 0] rfl (ih.2.1 x0 v14.1 0 v14.2 hi)
      · have hf := pm_ie hf c10
        refine pm_aload_n C dX1_readLocals_25 rfl rfl ?_
        obtain ⟨v16, e17, hf⟩ := pm_bd hf
        refine pm_getR C dX1_readLocals_26 flX1_22 rfl k9 e17 ?_
        refine pm_iload_n C dX1_readLocals_29 rfl rfl ?_
        refine pm_aload_n C dX1_readLocals_30 rfl rfl ?_
        obtain ⟨v18, e19, hf⟩ := pm_bd hf
        refine pm_getR C dX1_readLocals_31 flX1_49 rfl k9 e19 ?_
        obtain ⟨k20, hf⟩ := pm_if hf
        obtain ⟨v21, e22, hf⟩ := pm_bd hf
        refine pm_getR C dX1_readLocals_34 flX1_263 rfl k20 e22 ?_
        refine pm_iconst (v := 2) C dX1_readLocals_37 (by decide) ?_
        refine pm_iload_n C dX1_readLocals_38 rfl rfl ?_
        refine pm_iadd C dX1_readLocals_39 ?_
        obtain ⟨v23, e24, hf⟩ := pm_bd hf
        refine pm_callS (as := [.ref v21, .int (2 + x1)]) (st := [.int x1, .ref v16]) C X dX1_readLocals_40 lnX1_105 myX12_item stX12_item ⟨by decide, by decide⟩ rfl rfl (Nat.le_of_ble_eq_true rfl) (Nat.le_refl _) (Nat.le_refl _) (ctX12_item e24 ?_)
        show pm_G g 43 [(0, .ref x0), (1, .int x1)] [.int v23, .int x1, .ref v16] h 0 0
        obtain ⟨v25, e26, hf⟩ := pm_bd hf
        refine pm_callS (as := [.ref v16, .int x1, .int v23]) (st := []) C X dX1_readLocals_43 lnX1_266 myX12_setItem stX12_setItem ⟨by decide, by decide⟩ rfl rfl (Nat.le_of_ble_eq_true rfl) (Nat.le_refl _) (Nat.le_refl _) (ctX12_setItem e26 ?_)
        show pm_G g 46 [(0, .ref x0), (1, .int x1)] [] v25 0 0
        obtain ⟨y27, e28, hf⟩ := pm_lt hf
        refine pm_iinc (v := y27) (lv' := [(1, .int y27), (0, .ref x0)]) C dX1_readLocals_46 rfl ((congrArg (x1 + ·) (by decide : Int32.ofInt 1 = 1)).trans e28) (pm_nl X (by decide)) rfl ?_
        refine pm_goto (tgt := 17) C dX1_readLocals_49 (by decide) ?_
        cases hf
        exact pm_sub [1, 0] rfl (ih.1 x0 y27 v25 hi)
    refine ⟨fun x0 x1 x3 h hf => ?_, ?_⟩
    · obtain ⟨y, hf, hi⟩ := pm_iter_s hf
      have hf : tX1_readLocals_69 x0 x1 x3 h = some y := hf
      unfold tX1_readLocals_69 at hf
      refine pm_lload_n C dX1_readLocals_69 rfl rfl ?_
      refine pm_lload_n C dX1_readLocals_70 rfl rfl ?_
      refine pm_lcmp C dX1_readLocals_71 ?_
      refine pm_if_ge (tgt := 242) C dX1_readLocals_72 (by decide) (fun c29 => ?_) (fun c29 => ?_)
      · have hf := pm_it hf ((pm_lg_ge _ _).mp c29)
        cases hf
        cases hi
        exact pm_vret C X dX1_readLocals_242 rfl (Nat.le_refl _) (Nat.le_refl _) q
      · have hf := pm_ie hf ((fun z => c29 ((pm_lg_ge _ _).mpr z)))
        refine pm_aload_n C dX1_readLocals_75 rfl rfl ?_
        obtain ⟨k30, hf⟩ := pm_if hf
        obtain ⟨v31, e32, hf⟩ := pm_bd hf
        refine pm_getR C dX1_readLocals_76 flX1_36 rfl k30 e32 ?_
        obtain ⟨k33, hf⟩ := pm_if hf
        refine pm_getI C dX1_readLocals_79 flX1_270 rfl k33 rfl ?_
        refine pm_if_ne (tgt := 242) C dX1_readLocals_82 (by decide) (fun c34 => ?_) (fun c34 => ?_)
        · have hf := pm_ie hf c34
          cases hf
          cases hi
          exact pm_vret C X dX1_readLocals_242 rfl (Nat.le_refl _) (Nat.le_refl _) q
        · have hf := pm_it hf c34
          refine pm_aload_n C dX1_readLocals_85 rfl rfl ?_
          refine pm_getR C dX1_readLocals_86 flX1_36 rfl k30 e32 ?_
          refine pm_bipush (v := 32) C dX1_readLocals_89 (by decide) ?_
          obtain ⟨v35, e36, hf⟩ := pm_bd hf
          refine pm_callV (as := [.int 32]) (st := []) C X dX1_readLocals_91 lnX1_181 myX9_number viX9_number ⟨by decide, by decide⟩ rfl rfl k33 (Nat.le_of_ble_eq_true rfl) (Nat.le_refl _) (Nat.le_refl _) (ctX9_number e36 ?_)
          show pm_G g 94 [(0, .ref x0), (1, .long x1), (3, .long x3)] [.long v35.1] v35.2 0 0
          refine pm_aload_n C dX1_readLocals_94 rfl rfl ?_
          obtain ⟨k37, hf⟩ := pm_if hf
          obtain ⟨v38, e39, hf⟩ := pm_bd hf
          refine pm_getR C dX1_readLocals_95 flX1_22 rfl k37 e39 ?_
          obtain ⟨k40, hf⟩ := pm_if hf
          refine pm_alen (t := 2) C dX1_readLocals_98 (by decide) k40 rfl ?_
          refine pm_aload_n C dX1_readLocals_99 rfl rfl ?_
          refine pm_getI C dX1_readLocals_100 flX1_242 rfl k37 rfl ?_
          refine pm_isub C dX1_readLocals_103 ?_
          refine pm_i2l C dX1_readLocals_104 ?_
          obtain ⟨y41, e42, hf⟩ := pm_lt hf
          refine pm_topL e42 ?_
          refine pm_mminJ C (pm_XR X) dX1_readLocals_105 mtX1_271 (by decide) (by decide) (Nat.le_of_ble_eq_true rfl) (Nat.zero_le _) (Nat.zero_le _) ?_
          refine pm_l2i C dX1_readLocals_108 ?_
          obtain ⟨y43, e44, hf⟩ := pm_lt hf
          refine pm_topI e44 ?_
          refine pm_istore (lv' := [(5, .int y43), (0, .ref x0), (1, .long x1), (3, .long x3)]) C dX1_readLocals_109 (pm_nl X (by decide)) rfl ?_
          refine pm_aload_n C dX1_readLocals_111 rfl rfl ?_
          obtain ⟨v45, e46, hf⟩ := pm_bd hf
          refine pm_getR C dX1_readLocals_112 flX1_36 rfl k37 e46 ?_
          obtain ⟨k47, hf⟩ := pm_if hf
          obtain ⟨v48, e49, hf⟩ := pm_bd hf
          refine pm_callV (as := []) (st := []) C X dX1_readLocals_115 lnX1_275 myX9_next viX9_next ⟨by decide, by decide⟩ rfl rfl k47 (Nat.le_of_ble_eq_true rfl) (Nat.le_refl _) (Nat.le_refl _) (ctX9_next e49 ?_)
          show pm_G g 118 [(5, .int y43), (0, .ref x0), (1, .long x1), (3, .long x3)] [.int v48.1] v48.2 0 0
          refine pm_istore (lv' := [(6, .int v48.1), (5, .int y43), (0, .ref x0), (1, .long x1), (3, .long x3)]) C dX1_readLocals_118 (pm_nl X (by decide)) rfl ?_
          refine pm_iload C dX1_readLocals_120 rfl ?_
          refine pm_if_le (tgt := 192) C dX1_readLocals_122 (by decide) (fun c50 => ?_) (fun c50 => ?_)
          · have hf := pm_it hf c50
            refine pm_iconst (v := 0) C dX1_readLocals_192 (by decide) ?_
            refine pm_istore (lv' := [(7, .int 0), (6, .int v48.1), (5, .int y43), (0, .ref x0), (1, .long x1), (3, .long x3)]) C dX1_readLocals_193 (pm_nl X (by decide)) rfl ?_
            cases hf
            exact pm_sub [3, 4, 5, 2, 1, 0] rfl (ih.2.2 x0 x1 x3 y43 v48.1 0 v48.2 hi)
          · have hf := pm_ie hf c50
            refine pm_iload C dX1_readLocals_125 rfl ?_
            refine pm_bipush (v := 112) C dX1_readLocals_127 (by decide) ?_
            refine pm_icmp_eq (tgt := 139) C dX1_readLocals_129 (by decide) (fun c51 => ?_) (fun c51 => ?_)
            · have hf := pm_it hf c51
              refine pm_aload_n C dX1_readLocals_139 rfl rfl ?_
              obtain ⟨k52, hf⟩ := pm_if hf
              obtain ⟨v53, e54, hf⟩ := pm_bd hf
              refine pm_getR C dX1_readLocals_140 flX1_25 rfl k52 e54 ?_
              refine pm_aload_n C dX1_readLocals_143 rfl rfl ?_
              refine pm_getI C dX1_readLocals_144 flX1_251 rfl k52 rfl ?_
              refine pm_aload_n C dX1_readLocals_147 rfl rfl ?_
              refine pm_getI C dX1_readLocals_148 flX1_242 rfl k52 rfl ?_
              obtain ⟨v55, e56, hf⟩ := pm_bd hf
              refine pm_callS (as := [.ref v53, .int (pm_I v48.2 x0 14), .int (pm_I v48.2 x0 12)]) (st := []) C X dX1_readLocals_151 lnX1_266 myX12_setItem stX12_setItem ⟨by decide, by decide⟩ rfl rfl (Nat.le_of_ble_eq_true rfl) (Nat.le_refl _) (Nat.le_refl _) (ctX12_setItem e56 ?_)
              show pm_G g 154 [(6, .int v48.1), (5, .int y43), (0, .ref x0), (1, .long x1), (3, .long x3)] [] v55 0 0
              refine pm_aload_n C dX1_readLocals_154 rfl rfl ?_
              obtain ⟨k57, hf⟩ := pm_if hf
              obtain ⟨v58, e59, hf⟩ := pm_bd hf
              refine pm_getR C dX1_readLocals_155 flX1_25 rfl k57 e59 ?_
              refine pm_aload_n C dX1_readLocals_158 rfl rfl ?_
              refine pm_getI C dX1_readLocals_159 flX1_251 rfl k57 rfl ?_
              refine pm_iconst (v := 1) C dX1_readLocals_162 (by decide) ?_
              refine pm_iadd C dX1_readLocals_163 ?_
              refine pm_aload_n C dX1_readLocals_164 rfl rfl ?_
              refine pm_getI C dX1_readLocals_165 flX1_242 rfl k57 rfl ?_
              refine pm_iload C dX1_readLocals_168 rfl ?_
              refine pm_iadd C dX1_readLocals_170 ?_
              obtain ⟨v60, e61, hf⟩ := pm_bd hf
              refine pm_callS (as := [.ref v58, .int ((pm_I v55 x0 14) + 1), .int ((pm_I v55 x0 12) + y43)]) (st := []) C X dX1_readLocals_171 lnX1_266 myX12_setItem stX12_setItem ⟨by decide, by decide⟩ rfl rfl (Nat.le_of_ble_eq_true rfl) (Nat.le_refl _) (Nat.le_refl _) (ctX12_setItem e61 ?_)
              show pm_G g 174 [(6, .int v48.1), (5, .int y43), (0, .ref x0), (1, .long x1), (3, .long x3)] [] v60 0 0
              refine pm_aload_n C dX1_readLocals_174 rfl rfl ?_
              refine pm_aload_n C dX1_readLocals_175 rfl rfl ?_
              obtain ⟨k62, hf⟩ := pm_if hf
              refine pm_getI C dX1_readLocals_176 flX1_251 rfl k62 rfl ?_
              refine pm_iconst (v := 2) C dX1_readLocals_179 (by decide) ?_
              refine pm_iadd C dX1_readLocals_180 ?_
              refine pm_aload_n C dX1_readLocals_181 rfl rfl ?_
              obtain ⟨v63, e64, hf⟩ := pm_bd hf
              refine pm_getR C dX1_readLocals_182 flX1_25 rfl k62 e64 ?_
              obtain ⟨k65, hf⟩ := pm_if hf
              refine pm_alen (t := 2) C dX1_readLocals_185 (by decide) k65 rfl ?_
              obtain ⟨y66, e67, hf⟩ := pm_lt hf
              refine pm_topI e67 ?_
              refine pm_mminI C (pm_XR X) dX1_readLocals_186 mtX1_278 (by decide) (by decide) (Nat.le_of_ble_eq_true rfl) (Nat.zero_le _) (Nat.zero_le _) ?_
              obtain ⟨y68, e69, hf⟩ := pm_lt hf
              refine pm_topI e69 ?_
              refine pm_putI C dX1_readLocals_189 flX1_251 rfl rfl k62 rfl rfl ?_
              refine pm_iconst (v := 0) C dX1_readLocals_192 (by decide) ?_
              refine pm_istore (lv' := [(7, .int 0), (6, .int v48.1), (5, .int y43), (0, .ref x0), (1, .long x1), (3, .long x3)]) C dX1_readLocals_193 (pm_nl X (by decide)) rfl ?_
              cases hf
              exact pm_sub [3, 4, 5, 2, 1, 0] rfl (ih.2.2 x0 x1 x3 y43 v48.1 0 (pm_setI v60 x0 14 y68) hi)
            · have hf := pm_ie hf c51
              refine pm_iload C dX1_readLocals_132 rfl ?_
              refine pm_bipush (v := 111) C dX1_readLocals_134 (by decide) ?_
              refine pm_icmp_ne (tgt := 192) C dX1_readLocals_136 (by decide) (fun c70 => ?_) (fun c70 => ?_)
              · have hf := pm_ie hf c70
                refine pm_iconst (v := 0) C dX1_readLocals_192 (by decide) ?_
                refine pm_istore (lv' := [(7, .int 0), (6, .int v48.1), (5, .int y43), (0, .ref x0), (1, .long x1), (3, .long x3)]) C dX1_readLocals_193 (pm_nl X (by decide)) rfl ?_
                cases hf
                exact pm_sub [3, 4, 5, 2, 1, 0] rfl (ih.2.2 x0 x1 x3 y43 v48.1 0 v48.2 hi)
              · have hf := pm_it hf c70
                refine pm_aload_n C dX1_readLocals_139 rfl rfl ?_
                obtain ⟨k71, hf⟩ := pm_if hf
                obtain ⟨v72, e73, hf⟩ := pm_bd hf
                refine pm_getR C dX1_readLocals_140 flX1_25 rfl k71 e73 ?_
                refine pm_aload_n C dX1_readLocals_143 rfl rfl ?_
                refine pm_getI C dX1_readLocals_144 flX1_251 rfl k71 rfl ?_
                refine pm_aload_n C dX1_readLocals_147 rfl rfl ?_
                refine pm_getI C dX1_readLocals_148 flX1_242 rfl k71 rfl ?_
                obtain ⟨v74, e75, hf⟩ := pm_bd hf
                refine pm_callS (as := [.ref v72, .int (pm_I v48.2 x0 14), .int (pm_I v48.2 x0 12)]) (st := []) C X dX1_readLocals_151 lnX1_266 myX12_setItem stX12_setItem ⟨by decide, by decide⟩ rfl rfl (Nat.le_of_ble_eq_true rfl) (Nat.le_refl _) (Nat.le_refl _) (ctX12_setItem e75 ?_)
                show pm_G g 154 [(6, .int v48.1), (5, .int y43), (0, .ref x0), (1, .long x1), (3, .long x3)] [] v74 0 0
                refine pm_aload_n C dX1_readLocals_154 rfl rfl ?_
                obtain ⟨k76, hf⟩ := pm_if hf
                obtain ⟨v77, e78, hf⟩ := pm_bd hf
                refine pm_getR C dX1_readLocals_155 flX1_25 rfl k76 e78 ?_
                refine pm_aload_n C dX1_readLocals_158 rfl rfl ?_
                refine pm_getI C dX1_readLocals_159 flX1_251 rfl k76 rfl ?_
                refine pm_iconst (v := 1) C dX1_readLocals_162 (by decide) ?_
                refine pm_iadd C dX1_readLocals_163 ?_
                refine pm_aload_n C dX1_readLocals_164 rfl rfl ?_
                refine pm_getI C dX1_readLocals_165 flX1_242 rfl k76 rfl ?_
                refine pm_iload C dX1_readLocals_168 rfl ?_
                refine pm_iadd C dX1_readLocals_170 ?_
                obtain ⟨v79, e80, hf⟩ := pm_bd hf
                refine pm_callS (as := [.ref v77, .int ((pm_I v74 x0 14) + 1), .int ((pm_I v74 x0 12) + y43)]) (st := []) C X dX1_readLocals_171 lnX1_266 myX12_setItem stX12_setItem ⟨by decide, by decide⟩ rfl rfl (Nat.le_of_ble_eq_true rfl) (Nat.le_refl _) (Nat.le_refl _) (ctX12_setItem e80 ?_)
                show pm_G g 174 [(6, .int v48.1), (5, .int y43), (0, .ref x0), (1, .long x1), (3, .long x3)] [] v79 0 0
                refine pm_aload_n C dX1_readLocals_174 rfl rfl ?_
                refine pm_aload_n C dX1_readLocals_175 rfl rfl ?_
                obtain ⟨k81, hf⟩ := pm_if hf
                refine pm_getI C dX1_readLocals_176 flX1_251 rfl k81 rfl ?_
                refine pm_iconst (v := 2) C dX1_readLocals_179 (by decide) ?_
                refine pm_iadd C dX1_readLocals_180 ?_
                refine pm_aload_n C dX1_readLocals_181 rfl rfl ?_
                obtain ⟨v82, e83, hf⟩ := pm_bd hf
                refine pm_getR C dX1_readLocals_182 flX1_25 rfl k81 e83 ?_
                obtain ⟨k84, hf⟩ := pm_if hf
                refine pm_alen (t := 2) C dX1_readLocals_185 (by decide) k84 rfl ?_
                obtain ⟨y85, e86, hf⟩ := pm_lt hf
                refine pm_topI e86 ?_
                refine pm_mminI C (pm_XR X) dX1_readLocals_186 mtX1_278 (by decide) (by decide) (Nat.le_of_ble_eq_true rfl) (Nat.zero_le _) (Nat.zero_le _) ?_
                obtain ⟨y87, e88, hf⟩ := pm_lt hf
                refine pm_topI e88 ?_
                refine pm_putI C dX1_readLocals_189 flX1_251 rfl rfl k81 rfl rfl ?_
                refine pm_iconst (v := 0) C dX1_readLocals_192 (by decide) ?_
                refine pm_istore (lv' := [(7, .int 0), (6, .int v48.1), (5, .int y43), (0, .ref x0), (1, .long x1), (3, .long x3)]) C dX1_readLocals_193 (pm_nl X (by decide)) rfl ?_
                cases hf
                exact pm_sub [3, 4, 5, 2, 1, 0] rfl (ih.2.2 x0 x1 x3 y43 v48.1 0 (pm_setI v79 x0 14 y87) hi)
    refine fun x0 x1 x3 x5 x6 x7 h hf => ?_
    obtain ⟨y, hf, hi⟩ := pm_iter_s hf
    have hf : tX1_readLocals_195 x0 x1 x3 x5 x6 x7 h = some y := hf
    unfold tX1_readLocals_195 at hf
    refine pm_iload C dX1_readLocals_195 rfl ?_
    refine pm_iload C dX1_readLocals_197 rfl ?_
    refine pm_icmp_ge (tgt := 224) C dX1_readLocals_199 (by decide) (fun c89 => ?_) (fun c89 => ?_)
    · have hf := pm_it hf c89
      refine pm_aload_n C dX1_readLocals_224 rfl rfl ?_
      refine pm_dup C dX1_readLocals_225 rfl ?_
      obtain ⟨k90, hf⟩ := pm_if hf
      refine pm_getI C dX1_readLocals_226 flX1_242 rfl k90 rfl ?_
      refine pm_iload C dX1_readLocals_229 rfl ?_
      refine pm_iadd C dX1_readLocals_231 ?_
      obtain ⟨y91, e92, hf⟩ := pm_lt hf
      refine pm_topI e92 ?_
      refine pm_putI C dX1_readLocals_232 flX1_242 rfl rfl k90 rfl rfl ?_
      refine pm_lload_n C dX1_readLocals_235 rfl rfl ?_
      refine pm_lconst (v := 1) C dX1_readLocals_236 (by decide) ?_
      refine pm_ladd C dX1_readLocals_237 ?_
      obtain ⟨y93, e94, hf⟩ := pm_lt hf
      refine pm_topL e94 ?_
      refine pm_lstore_n (lv' := [(3, .long y93), (0, .ref x0), (1, .long x1), (5, .int x5), (6, .int x6), (7, .int x7)]) C dX1_readLocals_238 rfl (pm_nl X (by decide)) rfl ?_
      refine pm_goto (tgt := 69) C dX1_readLocals_239 (by decide) ?_
      cases hf
      exact pm_sub [1, 2, 0] rfl (ih.2.1 x0 x1 y93 (pm_setI h x0 12 y91) hi)
    · have hf := pm_ie hf c89
      refine pm_aload_n C dX1_readLocals_202 rfl rfl ?_
      obtain ⟨k95, hf⟩ := pm_if hf
      obtain ⟨v96, e97, hf⟩ := pm_bd hf
      refine pm_getR C dX1_readLocals_203 flX1_22 rfl k95 e97 ?_
      refine pm_aload_n C dX1_readLocals_206 rfl rfl ?_
      refine pm_getI C dX1_readLocals_207 flX1_242 rfl k95 rfl ?_
      refine pm_iload C dX1_readLocals_210 rfl ?_
      refine pm_iadd C dX1_readLocals_212 ?_
      refine pm_iload C dX1_readLocals_213 rfl ?_
      obtain ⟨v98, e99, hf⟩ := pm_bd hf
      refine pm_callS (as := [.ref v96, .int ((pm_I h x0 12) + x7), .int x6]) (st := []) C X dX1_readLocals_215 lnX1_266 myX12_setItem stX12_setItem ⟨by decide, by decide⟩ rfl rfl (Nat.le_of_ble_eq_true rfl) (Nat.le_refl _) (Nat.le_refl _) (ctX12_setItem e99 ?_)
      show pm_G g 218 [(0, .ref x0), (1, .long x1), (3, .long x3), (5, .int x5), (6, .int x6), (7, .int x7)] [] v98 0 0
      obtain ⟨y100, e101, hf⟩ := pm_lt hf
      refine pm_iinc (v := y100) (lv' := [(7, .int y100), (0, .ref x0), (1, .long x1), (3, .long x3), (5, .int x5), (6, .int x6)]) C dX1_readLocals_218 rfl ((congrArg (x7 + ·) (by decide : Int32.ofInt 1 = 1)).trans e101) (pm_nl X (by decide)) rfl ?_
      refine pm_goto (tgt := 195) C dX1_readLocals_221 (by decide) ?_
      cases hf
      exact pm_sub [1, 2, 3, 4, 5, 0] rfl (ih.2.2 x0 x1 x3 x5 x6 y100 v98 hi)
set_option maxHeartbeats 4000000 in
set_option maxRecDepth 100000 in
theorem ctX1_readLocals {l : Launch} {G : pm_Gl} {h : pm_H} {a0 : Nat} {r : pm_H} {Qr : Option Value → pm_H → Prop} (hf : fX1_readLocals h a0 = some r) (q : Qr none r) : pm_Ct l G mX1_readLocals [.ref a0] h 0 0 Qr := by
  refine pm_body pnX1 (Nat.le_of_ble_eq_true rfl) (fun g C X => ?_)
  have C : pm_C g cX1_readLocals RX1 := C
  show pm_G g 0 [(0, .ref a0)] [] h 0 0
  unfold fX1_readLocals at hf
  refine pm_aload_n C dX1_readLocals_0 rfl rfl ?_
  refine pm_aload_n C dX1_readLocals_1 rfl rfl ?_
  obtain ⟨k1, hf⟩ := pm_if hf
  obtain ⟨v2, e3, hf⟩ := pm_bd hf
  refine pm_getR C dX1_readLocals_2 flX1_49 rfl k1 e3 ?_
  obtain ⟨k4, hf⟩ := pm_if hf
  obtain ⟨v5, e6, hf⟩ := pm_bd hf
  refine pm_getR C dX1_readLocals_5 flX1_263 rfl k4 e6 ?_
  refine pm_iconst (v := 0) C dX1_readLocals_8 (by decide) ?_
  obtain ⟨v7, e8, hf⟩ := pm_bd hf
  refine pm_callS (as := [.ref v5, .int 0]) (st := [.ref a0]) C X dX1_readLocals_9 lnX1_105 myX12_item stX12_item ⟨by decide, by decide⟩ rfl rfl (Nat.le_of_ble_eq_true rfl) (Nat.le_refl _) (Nat.le_refl _) (ctX12_item e8 ?_)
  show pm_G g 12 [(0, .ref a0)] [.int v7, .ref a0] h 0 0
  refine pm_putI C dX1_readLocals_12 flX1_242 rfl rfl k1 rfl rfl ?_
  refine pm_iconst (v := 0) C dX1_readLocals_15 (by decide) ?_
  refine pm_istore_n (lv' := [(1, .int 0), (0, .ref a0)]) C dX1_readLocals_16 rfl (pm_nl X (by decide)) rfl ?_
  obtain ⟨n, hn⟩ := pm_lim_iter hf
  exact pm_sub [1, 0] rfl ((lpX1_readLocals C X q n).1 a0 0 (pm_setI h a0 12 v7) hn)
theorem dX5_branchOnRegisters_0 : decode cX5_branchOnRegisters 0 = .ok (.aload_n 0, 1) := by decide +kernel
theorem dX5_branchOnRegisters_1 : decode cX5_branchOnRegisters 1 = .ok (.getfield 51, 3) := by decide +kernel
theorem dX5_branchOnRegisters_4 : decode cX5_branchOnRegisters 4 = .ok (.getfield 198, 3) := by decide +kernel
theorem dX5_branchOnRegisters_7 : decode cX5_branchOnRegisters 7 = .ok (.aload_n 0, 1) := by decide +kernel
theorem dX5_branchOnRegisters_8 : decode cX5_branchOnRegisters 8 = .ok (.getfield 51, 3) := by decide +kernel
theorem dX5_branchOnRegisters_11 : decode cX5_branchOnRegisters 11 = .ok (.getfield 131, 3) := by decide +kernel
theorem dX5_branchOnRegisters_14 : decode cX5_branchOnRegisters 14 = .ok (.iload_n 1, 1) := by decide +kernel
theorem dX5_branchOnRegisters_15 : decode cX5_branchOnRegisters 15 = .ok (.iconst 3, 1) := by decide +kernel
theorem dX5_branchOnRegisters_16 : decode cX5_branchOnRegisters 16 = .ok (.iadd, 1) := by decide +kernel
theorem dX5_branchOnRegisters_17 : decode cX5_branchOnRegisters 17 = .ok (.invokestatic 88, 3) := by decide +kernel
theorem dX5_branchOnRegisters_20 : decode cX5_branchOnRegisters 20 = .ok (.iadd, 1) := by decide +kernel
theorem dX5_branchOnRegisters_21 : decode cX5_branchOnRegisters 21 = .ok (.istore_n 2, 1) := by decide +kernel
theorem dX5_branchOnRegisters_22 : decode cX5_branchOnRegisters 22 = .ok (.aload_n 0, 1) := by decide +kernel
theorem dX5_branchOnRegisters_23 : decode cX5_branchOnRegisters 23 = .ok (.getfield 51, 3) := by decide +kernel
theorem dX5_branchOnRegisters_26 : decode cX5_branchOnRegisters 26 = .ok (.getfield 198, 3) := by decide +kernel
theorem dX5_branchOnRegisters_29 : decode cX5_branchOnRegisters 29 = .ok (.aload_n 0, 1) := by decide +kernel
theorem dX5_branchOnRegisters_30 : decode cX5_branchOnRegisters 30 = .ok (.getfield 51, 3) := by decide +kernel
theorem dX5_branchOnRegisters_33 : decode cX5_branchOnRegisters 33 = .ok (.getfield 131, 3) := by decide +kernel
theorem dX5_branchOnRegisters_36 : decode cX5_branchOnRegisters 36 = .ok (.iload_n 1, 1) := by decide +kernel
theorem dX5_branchOnRegisters_37 : decode cX5_branchOnRegisters 37 = .ok (.iconst 2, 1) := by decide +kernel
theorem dX5_branchOnRegisters_38 : decode cX5_branchOnRegisters 38 = .ok (.iadd, 1) := by decide +kernel
theorem dX5_branchOnRegisters_39 : decode cX5_branchOnRegisters 39 = .ok (.invokestatic 88, 3) := by decide +kernel
theorem dX5_branchOnRegisters_42 : decode cX5_branchOnRegisters 42 = .ok (.iadd, 1) := by decide +kernel
theorem dX5_branchOnRegisters_43 : decode cX5_branchOnRegisters 43 = .ok (.istore_n 3, 1) := by decide +kernel
theorem dX5_branchOnRegisters_44 : decode cX5_branchOnRegisters 44 = .ok (.aload_n 0, 1) := by decide +kernel
theorem dX5_branchOnRegisters_45 : decode cX5_branchOnRegisters 45 = .ok (.getfield 15, 3) := by decide +kernel
theorem dX5_branchOnRegisters_48 : decode cX5_branchOnRegisters 48 = .ok (.iload_n 2, 1) := by decide +kernel
theorem dX5_branchOnRegisters_49 : decode cX5_branchOnRegisters 49 = .ok (.iload_n 3, 1) := by decide +kernel
theorem dX5_branchOnRegisters_50 : decode cX5_branchOnRegisters 50 = .ok (.aload_n 0, 1) := by decide +kernel
theorem dX5_branchOnRegisters_51 : decode cX5_branchOnRegisters 51 = .ok (.getfield 51, 3) := by decide +kernel
theorem dX5_branchOnRegisters_54 : decode cX5_branchOnRegisters 54 = .ok (.getfield 131, 3) := by decide +kernel
theorem dX5_branchOnRegisters_57 : decode cX5_branchOnRegisters 57 = .ok (.iload_n 1, 1) := by decide +kernel
theorem dX5_branchOnRegisters_58 : decode cX5_branchOnRegisters 58 = .ok (.bipush 7, 2) := by decide +kernel
theorem dX5_branchOnRegisters_60 : decode cX5_branchOnRegisters 60 = .ok (.iadd, 1) := by decide +kernel
theorem dX5_branchOnRegisters_61 : decode cX5_branchOnRegisters 61 = .ok (.invokestatic 88, 3) := by decide +kernel
theorem dX5_branchOnRegisters_64 : decode cX5_branchOnRegisters 64 = .ok (.invokestatic 208, 3) := by decide +kernel
theorem dX5_branchOnRegisters_67 : decode cX5_branchOnRegisters 67 = .ok (.aload_n 0, 1) := by decide +kernel
theorem dX5_branchOnRegisters_68 : decode cX5_branchOnRegisters 68 = .ok (.getfield 51, 3) := by decide +kernel
theorem dX5_branchOnRegisters_71 : decode cX5_branchOnRegisters 71 = .ok (.aload_n 0, 1) := by decide +kernel
theorem dX5_branchOnRegisters_72 : decode cX5_branchOnRegisters 72 = .ok (.getfield 51, 3) := by decide +kernel
theorem dX5_branchOnRegisters_75 : decode cX5_branchOnRegisters 75 = .ok (.getfield 131, 3) := by decide +kernel
theorem dX5_branchOnRegisters_78 : decode cX5_branchOnRegisters 78 = .ok (.iload_n 1, 1) := by decide +kernel
theorem dX5_branchOnRegisters_79 : decode cX5_branchOnRegisters 79 = .ok (.bipush 6, 2) := by decide +kernel
theorem dX5_branchOnRegisters_81 : decode cX5_branchOnRegisters 81 = .ok (.iadd, 1) := by decide +kernel
theorem dX5_branchOnRegisters_82 : decode cX5_branchOnRegisters 82 = .ok (.invokestatic 88, 3) := by decide +kernel
theorem dX5_branchOnRegisters_85 : decode cX5_branchOnRegisters 85 = .ok (.putfield 128, 3) := by decide +kernel
theorem dX5_branchOnRegisters_88 : decode cX5_branchOnRegisters 88 = .ok (.return_, 1) := by decide +kernel
def fX5_branchOnRegisters (h : pm_H) (a0 : Nat) (p1 : Int32) : Option pm_H := if pm_kd h a0 = 5 then (pm_R h a0 12).bind fun v2 => if pm_kd h v2 = 3 then (pm_R h v2 2).bind fun v5 => (fX12_item h v5 (p1 + 3)).bind fun v7 => pm_let ((pm_I h v2 4) + v7) fun y9 => (fX12_item h v5 (p1 + 2)).bind fun v11 => pm_let ((pm_I h v2 4) + v11) fun y13 => (pm_R h a0 10).bind fun v15 => (fX12_item h v5 (p1 + 7)).bind fun v17 => (fX12_move h v15 y9 y13 v17).bind fun v19 => if pm_kd v19 a0 = 5 then (pm_R v19 a0 12).bind fun v22 => if pm_kd v19 v22 = 3 then (pm_R v19 v22 2).bind fun v25 => (fX12_item v19 v25 (p1 + 6)).bind fun v27 => some (pm_setI v19 v22 3 v27) else none else none else none else none
set_option maxHeartbeats 4000000 in
set_option maxRecDepth 100000 in
theorem ctX5_branchOnRegisters {l : Launch} {G : pm_Gl} {h : pm_H} {a0 : Nat} {p1 : Int32} {r : pm_H} {Qr : Option Value → pm_H → Prop} (hf : fX5_branchOnRegisters h a0 p1 = some r) (q : Qr none r) : pm_Ct l G mX5_branchOnRegisters [.ref a0, .int p1] h 0 0 Qr := by
  refine pm_body pnX5 (Nat.le_of_ble_eq_true rfl) (fun g C X => ?_)
  have C : pm_C g cX5_branchOnRegisters RX5 := C
  show pm_G g 0 [(0, .ref a0), (1, .int p1)] [] h 0 0
  unfold fX5_branchOnRegisters at hf
  refine pm_aload_n C dX5_branchOnRegisters_0 rfl rfl ?_
  obtain ⟨k1, hf⟩ := pm_if hf
  obtain ⟨v2, e3, hf⟩ := pm_bd hf
  refine pm_getR C dX5_branchOnRegisters_1 flX5_51 rfl k1 e3 ?_
  obtain ⟨k4, hf⟩ := pm_if hf
  refine pm_getI C dX5_branchOnRegisters_4 flX5_198 rfl k4 rfl ?_
  refine pm_aload_n C dX5_branchOnRegisters_7 rfl rfl ?_
  refine pm_getR C dX5_branchOnRegisters_8 flX5_51 rfl k1 e3 ?_
  obtain ⟨v5, e6, hf⟩ := pm_bd hf
  refine pm_getR C dX5_branchOnRegisters_11 flX5_131 rfl k4 e6 ?_
  refine pm_iload_n C dX5_branchOnRegisters_14 rfl rfl ?_
  refine pm_iconst (v := 3) C dX5_branchOnRegisters_15 (by decide) ?_
  refine pm_iadd C dX5_branchOnRegisters_16 ?_
  obtain ⟨v7, e8, hf⟩ := pm_bd hf
  refine pm_callS (as := [.ref v5, .int (p1 + 3)]) (st := [.int (pm_I h v2 4)]) C X dX5_branchOnRegisters_17 lnX5_88 myX12_item stX12_item ⟨by decide, by decide⟩ rfl rfl (Nat.le_of_ble_eq_true rfl) (Nat.le_refl _) (Nat.le_refl _) (ctX12_item e8 ?_)
  show pm_G g 20 [(0, .ref a0), (1, .int p1)] [.int v7, .int (pm_I h v2 4)] h 0 0
  refine pm_iadd C dX5_branchOnRegisters_20 ?_
  obtain ⟨y9, e10, hf⟩ := pm_lt hf
  refine pm_topI e10 ?_
  refine pm_istore_n (lv' := [(2, .int y9), (0, .ref a0), (1, .int p1)]) C dX5_branchOnRegisters_21 rfl (pm_nl X (by decide)) rfl ?_
  refine pm_aload_n C dX5_branchOnRegisters_22 rfl rfl ?_
  refine pm_getR C dX5_branchOnRegisters_23 flX5_51 rfl k1 e3 ?_
  refine pm_getI C dX5_branchOnRegisters_26 flX5_198 rfl k4 rfl ?_
  refine pm_aload_n C dX5_branchOnRegisters_29 rfl rfl ?_
  refine pm_getR C dX5_branchOnRegisters_30 flX5_51 rfl k1 e3 ?_
  refine pm_getR C dX5_branchOnRegisters_33 flX5_131 rfl k4 e6 ?_
  refine pm_iload_n C dX5_branchOnRegisters_36 rfl rfl ?_
  refine pm_iconst (v := 2) C dX5_branchOnRegisters_37 (by decide) ?_
  refine pm_iadd C dX5_branchOnRegisters_38 ?_
  obtain ⟨v11, e12, hf⟩ := pm_bd hf
  refine pm_callS (as := [.ref v5, .int (p1 + 2)]) (st := [.int (pm_I h v2 4)]) C X dX5_branchOnRegisters_39 lnX5_88 myX12_item stX12_item ⟨by decide, by decide⟩ rfl rfl (Nat.le_of_ble_eq_true rfl) (Nat.le_refl _) (Nat.le_refl _) (ctX12_item e12 ?_)
  show pm_G g 42 [(2, .int y9), (0, .ref a0), (1, .int p1)] [.int v11, .int (pm_I h v2 4)] h 0 0
  refine pm_iadd C dX5_branchOnRegisters_42 ?_
  obtain ⟨y13, e14, hf⟩ := pm_lt hf
  refine pm_topI e14 ?_
  refine pm_istore_n (lv' := [(3, .int y13), (2, .int y9), (0, .ref a0), (1, .int p1)]) C dX5_branchOnRegisters_43 rfl (pm_nl X (by decide)) rfl ?_
  refine pm_aload_n C dX5_branchOnRegisters_44 rfl rfl ?_
  obtain ⟨v15, e16, hf⟩ := pm_bd hf
  refine pm_getR C dX5_branchOnRegisters_45 flX5_15 rfl k1 e16 ?_
  refine pm_iload_n C dX5_branchOnRegisters_48 rfl rfl ?_
  refine pm_iload_n C dX5_branchOnRegisters_49 rfl rfl ?_
  refine pm_aload_n C dX5_branchOnRegisters_50 rfl rfl ?_
  refine pm_getR C dX5_branchOnRegisters_51 flX5_51 rfl k1 e3 ?_
  refine pm_getR C dX5_branchOnRegisters_54 flX5_131 rfl k4 e6 ?_
  refine pm_iload_n C dX5_branchOnRegisters_57 rfl rfl ?_
  refine pm_bipush (v := 7) C dX5_branchOnRegisters_58 (by decide) ?_
  refine pm_iadd C dX5_branchOnRegisters_60 ?_
  obtain ⟨v17, e18, hf⟩ := pm_bd hf
  refine pm_callS (as := [.ref v5, .int (p1 + 7)]) (st := [.int y13, .int y9, .ref v15]) C X dX5_branchOnRegisters_61 lnX5_88 myX12_item stX12_item ⟨by decide, by decide⟩ rfl rfl (Nat.le_of_ble_eq_true rfl) (Nat.le_refl _) (Nat.le_refl _) (ctX12_item e18 ?_)
  show pm_G g 64 [(3, .int y13), (2, .int y9), (0, .ref a0), (1, .int p1)] [.int v17, .int y13, .int y9, .ref v15] h 0 0
  obtain ⟨v19, e20, hf⟩ := pm_bd hf
  refine pm_callS (as := [.ref v15, .int y9, .int y13, .int v17]) (st := []) C X dX5_branchOnRegisters_64 lnX5_208 myX12_move stX12_move ⟨by decide, by decide⟩ rfl rfl (Nat.le_of_ble_eq_true rfl) (Nat.le_refl _) (Nat.le_refl _) (ctX12_move e20 ?_)
  show pm_G g 67 [(3, .int y13), (2, .int y9), (0, .ref a0), (1, .int p1)] [] v19 0 0
  refine pm_aload_n C dX5_branchOnRegisters_67 rfl rfl ?_
  obtain ⟨k21, hf⟩ := pm_if hf
  obtain ⟨v22, e23, hf⟩ := pm_bd hf
  refine pm_getR C dX5_branchOnRegisters_68 flX5_51 rfl k21 e23 ?_
  refine pm_aload_n C dX5_branchOnRegisters_71 rfl rfl ?_
  refine pm_getR C dX5_branchOnRegisters_72 flX5_51 rfl k21 e23 ?_
  obtain ⟨k24, hf⟩ := pm_if hf
  obtain ⟨v25, e26, hf⟩ := pm_bd hf
  refine pm_getR C dX5_branchOnRegisters_75 flX5_131 rfl k24 e26 ?_
  refine pm_iload_n C dX5_branchOnRegisters_78 rfl rfl ?_
  refine pm_bipush (v := 6) C dX5_branchOnRegisters_79 (by decide) ?_
  refine pm_iadd C dX5_branchOnRegisters_81 ?_
  obtain ⟨v27, e28, hf⟩ := pm_bd hf
  refine pm_callS (as := [.ref v25, .int (p1 + 6)]) (st := [.ref v22]) C X dX5_branchOnRegisters_82 lnX5_88 myX12_item stX12_item ⟨by decide, by decide⟩ rfl rfl (Nat.le_of_ble_eq_true rfl) (Nat.le_refl _) (Nat.le_refl _) (ctX12_item e28 ?_)
  show pm_G g 85 [(3, .int y13), (2, .int y9), (0, .ref a0), (1, .int p1)] [.int v27, .ref v22] v19 0 0
  refine pm_putI C dX5_branchOnRegisters_85 flX5_128 rfl rfl k24 rfl rfl ?_
  cases hf
  exact pm_vret C X dX5_branchOnRegisters_88 rfl (Nat.le_refl _) (Nat.le_refl _) q
theorem dX5_branchOnStack_0 : decode cX5_branchOnStack 0 = .ok (.aload_n 0, 1) := by decide +kernel
theorem dX5_branchOnStack_1 : decode cX5_branchOnStack 1 = .ok (.getfield 51, 3) := by decide +kernel
theorem dX5_branchOnStack_4 : decode cX5_branchOnStack 4 = .ok (.getfield 131, 3) := by decide +kernel
theorem dX5_branchOnStack_7 : decode cX5_branchOnStack 7 = .ok (.iload_n 1, 1) := by decide +kernel
theorem dX5_branchOnStack_8 : decode cX5_branchOnStack 8 = .ok (.iconst 2, 1) := by decide +kernel
theorem dX5_branchOnStack_9 : decode cX5_branchOnStack 9 = .ok (.iadd, 1) := by decide +kernel
theorem dX5_branchOnStack_10 : decode cX5_branchOnStack 10 = .ok (.invokestatic 88, 3) := by decide +kernel
theorem dX5_branchOnStack_13 : decode cX5_branchOnStack 13 = .ok (.istore_n 2, 1) := by decide +kernel
theorem dX5_branchOnStack_14 : decode cX5_branchOnStack 14 = .ok (.aload_n 0, 1) := by decide +kernel
theorem dX5_branchOnStack_15 : decode cX5_branchOnStack 15 = .ok (.getfield 51, 3) := by decide +kernel
theorem dX5_branchOnStack_18 : decode cX5_branchOnStack 18 = .ok (.getfield 198, 3) := by decide +kernel
theorem dX5_branchOnStack_21 : decode cX5_branchOnStack 21 = .ok (.aload_n 0, 1) := by decide +kernel
theorem dX5_branchOnStack_22 : decode cX5_branchOnStack 22 = .ok (.getfield 51, 3) := by decide +kernel
theorem dX5_branchOnStack_25 : decode cX5_branchOnStack 25 = .ok (.getfield 148, 3) := by decide +kernel
theorem dX5_branchOnStack_28 : decode cX5_branchOnStack 28 = .ok (.getfield 184, 3) := by decide +kernel
theorem dX5_branchOnStack_31 : decode cX5_branchOnStack 31 = .ok (.iadd, 1) := by decide +kernel
theorem dX5_branchOnStack_32 : decode cX5_branchOnStack 32 = .ok (.aload_n 0, 1) := by decide +kernel
theorem dX5_branchOnStack_33 : decode cX5_branchOnStack 33 = .ok (.getfield 51, 3) := by decide +kernel
theorem dX5_branchOnStack_36 : decode cX5_branchOnStack 36 = .ok (.getfield 131, 3) := by decide +kernel
theorem dX5_branchOnStack_39 : decode cX5_branchOnStack 39 = .ok (.iload_n 1, 1) := by decide +kernel
theorem dX5_branchOnStack_40 : decode cX5_branchOnStack 40 = .ok (.iconst 3, 1) := by decide +kernel
theorem dX5_branchOnStack_41 : decode cX5_branchOnStack 41 = .ok (.iadd, 1) := by decide +kernel
theorem dX5_branchOnStack_42 : decode cX5_branchOnStack 42 = .ok (.invokestatic 88, 3) := by decide +kernel
theorem dX5_branchOnStack_45 : decode cX5_branchOnStack 45 = .ok (.iadd, 1) := by decide +kernel
theorem dX5_branchOnStack_46 : decode cX5_branchOnStack 46 = .ok (.istore_n 3, 1) := by decide +kernel
theorem dX5_branchOnStack_47 : decode cX5_branchOnStack 47 = .ok (.aload_n 0, 1) := by decide +kernel
theorem dX5_branchOnStack_48 : decode cX5_branchOnStack 48 = .ok (.getfield 15, 3) := by decide +kernel
theorem dX5_branchOnStack_51 : decode cX5_branchOnStack 51 = .ok (.aload_n 0, 1) := by decide +kernel
theorem dX5_branchOnStack_52 : decode cX5_branchOnStack 52 = .ok (.getfield 51, 3) := by decide +kernel
theorem dX5_branchOnStack_55 : decode cX5_branchOnStack 55 = .ok (.getfield 118, 3) := by decide +kernel
theorem dX5_branchOnStack_58 : decode cX5_branchOnStack 58 = .ok (.iload_n 2, 1) := by decide +kernel
theorem dX5_branchOnStack_59 : decode cX5_branchOnStack 59 = .ok (.isub, 1) := by decide +kernel
theorem dX5_branchOnStack_60 : decode cX5_branchOnStack 60 = .ok (.iload_n 3, 1) := by decide +kernel
theorem dX5_branchOnStack_61 : decode cX5_branchOnStack 61 = .ok (.iload_n 2, 1) := by decide +kernel
theorem dX5_branchOnStack_62 : decode cX5_branchOnStack 62 = .ok (.invokestatic 208, 3) := by decide +kernel
theorem dX5_branchOnStack_65 : decode cX5_branchOnStack 65 = .ok (.aload_n 0, 1) := by decide +kernel
theorem dX5_branchOnStack_66 : decode cX5_branchOnStack 66 = .ok (.getfield 51, 3) := by decide +kernel
theorem dX5_branchOnStack_69 : decode cX5_branchOnStack 69 = .ok (.iload_n 3, 1) := by decide +kernel
theorem dX5_branchOnStack_70 : decode cX5_branchOnStack 70 = .ok (.iload_n 2, 1) := by decide +kernel
theorem dX5_branchOnStack_71 : decode cX5_branchOnStack 71 = .ok (.iadd, 1) := by decide +kernel
theorem dX5_branchOnStack_72 : decode cX5_branchOnStack 72 = .ok (.putfield 118, 3) := by decide +kernel
theorem dX5_branchOnStack_75 : decode cX5_branchOnStack 75 = .ok (.aload_n 0, 1) := by decide +kernel
theorem dX5_branchOnStack_76 : decode cX5_branchOnStack 76 = .ok (.getfield 51, 3) := by decide +kernel
theorem dX5_branchOnStack_79 : decode cX5_branchOnStack 79 = .ok (.aload_n 0, 1) := by decide +kernel
theorem dX5_branchOnStack_80 : decode cX5_branchOnStack 80 = .ok (.getfield 51, 3) := by decide +kernel
theorem dX5_branchOnStack_83 : decode cX5_branchOnStack 83 = .ok (.getfield 131, 3) := by decide +kernel
theorem dX5_branchOnStack_86 : decode cX5_branchOnStack 86 = .ok (.iload_n 1, 1) := by decide +kernel
theorem dX5_branchOnStack_87 : decode cX5_branchOnStack 87 = .ok (.iconst 1, 1) := by decide +kernel
theorem dX5_branchOnStack_88 : decode cX5_branchOnStack 88 = .ok (.iadd, 1) := by decide +kernel
theorem dX5_branchOnStack_89 : decode cX5_branchOnStack 89 = .ok (.invokestatic 88, 3) := by decide +kernel
theorem dX5_branchOnStack_92 : decode cX5_branchOnStack 92 = .ok (.putfield 128, 3) := by decide +kernel
theorem dX5_branchOnStack_95 : decode cX5_branchOnStack 95 = .ok (.return_, 1) := by decide +kernel
def fX5_branchOnStack (h : pm_H) (a0 : Nat) (p1 : Int32) : Option pm_H := if pm_kd h a0 = 5 then (pm_R h a0 12).bind fun v2 => if pm_kd h v2 = 3 then (pm_R h v2 2).bind fun v5 => (fX12_item h v5 (p1 + 2)).bind fun v7 => (pm_R h v2 1).bind fun v9 => if pm_kd h v9 = 0 then (fX12_item h v5 (p1 + 3)).bind fun v12 => pm_let (((pm_I h v2 4) + (pm_I h v9 3)) + v12) fun y14 => (pm_R h a0 10).bind fun v16 => (fX12_move h v16 ((pm_I h v2 5) - v7) y14 v7).bind fun v18 => if pm_kd v18 a0 = 5 then (pm_R v18 a0 12).bind fun v21 => pm_let (y14 + v7) fun y23 => if pm_kd v18 v21 = 3 then (pm_R (pm_setI v18 v21 5 y23) v21 2).bind fun v26 => (fX12_item (pm_setI v18 v21 5 y23) v26 (p1 + 1)).bind fun v28 => some (pm_setI (pm_setI v18 v21 5 y23) v21 3 v28) else none else none else none else none else none
set_option maxHeartbeats 4000000 in
set_option maxRecDepth 100000 in
theorem ctX5_branchOnStack {l : Launch} {G : pm_Gl} {h : pm_H} {a0 : Nat} {p1 : Int32} {r : pm_H} {Qr : Option Value → pm_H → Prop} (hf : fX5_branchOnStack h a0 p1 = some r) (q : Qr none r) : pm_Ct l G mX5_branchOnStack [.ref a0, .int p1] h 0 0 Qr := by
  refine pm_body pnX5 (Nat.le_of_ble_eq_true rfl) (fun g C X => ?_)
  have C : pm_C g cX5_branchOnStack RX5 := C
  show pm_G g 0 [(0, .ref a0), (1, .int p1)] [] h 0 0
  unfold fX5_branchOnStack at hf
  refine pm_aload_n C dX5_branchOnStack_0 rfl rfl ?_
  obtain ⟨k1, hf⟩ := pm_if hf
  obtain ⟨v2, e3, hf⟩ := pm_bd hf
  refine pm_getR C dX5_branchOnStack_1 flX5_51 rfl k1 e3 ?_
  obtain ⟨k4, hf⟩ := pm_if hf
  obtain ⟨v5, e6, hf⟩ := pm_bd hf
  refine pm_getR C dX5_branchOnStack_4 flX5_131 rfl k4 e6 ?_
  refine pm_iload_n C dX5_branchOnStack_7 rfl rfl ?_
  refine pm_iconst (v := 2) C dX5_branchOnStack_8 (by decide) ?_
  refine pm_iadd C dX5_branchOnStack_9 ?_
  obtain ⟨v7, e8, hf⟩ := pm_bd hf
  refine pm_callS (as := [.ref v5, .int (p1 + 2)]) (st := []) C X dX5_branchOnStack_10 lnX5_88 myX12_item stX12_item ⟨by decide, by decide⟩ rfl rfl (Nat.le_of_ble_eq_true rfl) (Nat.le_refl _) (Nat.le_refl _) (ctX12_item e8 ?_)
  show pm_G g 13 [(0, .ref a0), (1, .int p1)] [.int v7] h 0 0
  refine pm_istore_n (lv' := [(2, .int v7), (0, .ref a0), (1, .int p1)]) C dX5_branchOnStack_13 rfl (pm_nl X (by decide)) rfl ?_
  refine pm_aload_n C dX5_branchOnStack_14 rfl rfl ?_
  refine pm_getR C dX5_branchOnStack_15 flX5_51 rfl k1 e3 ?_
  refine pm_getI C dX5_branchOnStack_18 flX5_198 rfl k4 rfl ?_
  refine pm_aload_n C dX5_branchOnStack_21 rfl rfl ?_
  refine pm_getR C dX5_branchOnStack_22 flX5_51 rfl k1 e3 ?_
  obtain ⟨v9, e10, hf⟩ := pm_bd hf
  refine pm_getR C dX5_branchOnStack_25 flX5_148 rfl k4 e10 ?_
  obtain ⟨k11, hf⟩ := pm_if hf
  refine pm_getI C dX5_branchOnStack_28 flX5_184 rfl k11 rfl ?_
  refine pm_iadd C dX5_branchOnStack_31 ?_
  refine pm_aload_n C dX5_branchOnStack_32 rfl rfl ?_
  refine pm_getR C dX5_branchOnStack_33 flX5_51 rfl k1 e3 ?_
  refine pm_getR C dX5_branchOnStack_36 flX5_131 rfl k4 e6 ?_
  refine pm_iload_n C dX5_branchOnStack_39 rfl rfl ?_
  refine pm_iconst (v := 3) C dX5_branchOnStack_40 (by decide) ?_
  refine pm_iadd C dX5_branchOnStack_41 ?_
  obtain ⟨v12, e13, hf⟩ := pm_bd hf
  refine pm_callS (as := [.ref v5, .int (p1 + 3)]) (st := [.int ((pm_I h v2 4) + (pm_I h v9 3))]) C X dX5_branchOnStack_42 lnX5_88 myX12_item stX12_item ⟨by decide, by decide⟩ rfl rfl (Nat.le_of_ble_eq_true rfl) (Nat.le_refl _) (Nat.le_refl _) (ctX12_item e13 ?_)
  show pm_G g 45 [(2, .int v7), (0, .ref a0), (1, .int p1)] [.int v12, .int ((pm_I h v2 4) + (pm_I h v9 3))] h 0 0
  refine pm_iadd C dX5_branchOnStack_45 ?_
  obtain ⟨y14, e15, hf⟩ := pm_lt hf
  refine pm_topI e15 ?_
  refine pm_istore_n (lv' := [(3, .int y14), (2, .int v7), (0, .ref a0), (1, .int p1)]) C dX5_branchOnStack_46 rfl (pm_nl X (by decide)) rfl ?_
  refine pm_aload_n C dX5_branchOnStack_47 rfl rfl ?_
  obtain ⟨v16, e17, hf⟩ := pm_bd hf
  refine pm_getR C dX5_branchOnStack_48 flX5_15 rfl k1 e17 ?_
  refine pm_aload_n C dX5_branchOnStack_51 rfl rfl ?_
  refine pm_getR C dX5_branchOnStack_52 flX5_51 rfl k1 e3 ?_
  refine pm_getI C dX5_branchOnStack_55 flX5_118 rfl k4 rfl ?_
  refine pm_iload_n C dX5_branchOnStack_58 rfl rfl ?_
  refine pm_isub C dX5_branchOnStack_59 ?_
  refine pm_iload_n C dX5_branchOnStack_60 rfl rfl ?_
  refine pm_iload_n C dX5_branchOnStack_61 rfl rfl ?_
  obtain ⟨v18, e19, hf⟩ := pm_bd hf
  refine pm_callS (as := [.ref v16, .int ((pm_I h v2 5) - v7), .int y14, .int v7]) (st := []) C X dX5_branchOnStack_62 lnX5_208 myX12_move stX12_move ⟨by decide, by decide⟩ rfl rfl (Nat.le_of_ble_eq_true rfl) (Nat.le_refl _) (Nat.le_refl _) (ctX12_move e19 ?_)
  show pm_G g 65 [(3, .int y14), (2, .int v7), (0, .ref a0), (1, .int p1)] [] v18 0 0
  refine pm_aload_n C dX5_branchOnStack_65 rfl rfl ?_
  obtain ⟨k20, hf⟩ := pm_if hf
  obtain ⟨v21, e22, hf⟩ := pm_bd hf
  refine pm_getR C dX5_branchOnStack_66 flX5_51 rfl k20 e22 ?_
  refine pm_iload_n C dX5_branchOnStack_69 rfl rfl ?_
  refine pm_iload_n C dX5_branchOnStack_70 rfl rfl ?_
  refine pm_iadd C dX5_branchOnStack_71 ?_
  obtain ⟨y23, e24, hf⟩ := pm_lt hf
  refine pm_topI e24 ?_
  obtain ⟨k25, hf⟩ := pm_if hf
  refine pm_putI C dX5_branchOnStack_72 flX5_118 rfl rfl k25 rfl rfl ?_
  refine pm_aload_n C dX5_branchOnStack_75 rfl rfl ?_
  refine pm_getR C dX5_branchOnStack_76 flX5_51 rfl k20 e22 ?_
  refine pm_aload_n C dX5_branchOnStack_79 rfl rfl ?_
  refine pm_getR C dX5_branchOnStack_80 flX5_51 rfl k20 e22 ?_
  obtain ⟨v26, e27, hf⟩ := pm_bd hf
  refine pm_getR C dX5_branchOnStack_83 flX5_131 rfl k25 e27 ?_
  refine pm_iload_n C dX5_branchOnStack_86 rfl rfl ?_
  refine pm_iconst (v := 1) C dX5_branchOnStack_87 (by decide) ?_
  refine pm_iadd C dX5_branchOnStack_88 ?_
  obtain ⟨v28, e29, hf⟩ := pm_bd hf
  refine pm_callS (as := [.ref v26, .int (p1 + 1)]) (st := [.ref v21]) C X dX5_branchOnStack_89 lnX5_88 myX12_item stX12_item ⟨by decide, by decide⟩ rfl rfl (Nat.le_of_ble_eq_true rfl) (Nat.le_refl _) (Nat.le_refl _) (ctX12_item e29 ?_)
  show pm_G g 92 [(3, .int y14), (2, .int v7), (0, .ref a0), (1, .int p1)] [.int v28, .ref v21] (pm_setI v18 v21 5 y23) 0 0
  refine pm_putI C dX5_branchOnStack_92 flX5_128 rfl rfl k25 rfl rfl ?_
  cases hf
  exact pm_vret C X dX5_branchOnStack_95 rfl (Nat.le_refl _) (Nat.le_refl _) q
theorem dX5_enter_0 : decode cX5_enter 0 = .ok (.aload_n 0, 1) := by decide +kernel
theorem dX5_enter_1 : decode cX5_enter 1 = .ok (.getfield 24, 3) := by decide +kernel
theorem dX5_enter_4 : decode cX5_enter 4 = .ok (.iload_n 1, 1) := by decide +kernel
theorem dX5_enter_5 : decode cX5_enter 5 = .ok (.invokevirtual 170, 3) := by decide +kernel
theorem dX5_enter_8 : decode cX5_enter 8 = .ok (.astore_n 3, 1) := by decide +kernel
theorem dX5_enter_9 : decode cX5_enter 9 = .ok (.aload_n 3, 1) := by decide +kernel
theorem dX5_enter_10 : decode cX5_enter 10 = .ok (.getfield 174, 3) := by decide +kernel
theorem dX5_enter_13 : decode cX5_enter 13 = .ok (.iconst 0, 1) := by decide +kernel
theorem dX5_enter_14 : decode cX5_enter 14 = .ok (.invokestatic 88, 3) := by decide +kernel
theorem dX5_enter_17 : decode cX5_enter 17 = .ok (.istore 4, 2) := by decide +kernel
theorem dX5_enter_19 : decode cX5_enter 19 = .ok (.aload_n 0, 1) := by decide +kernel
theorem dX5_enter_20 : decode cX5_enter 20 = .ok (.getfield 24, 3) := by decide +kernel
theorem dX5_enter_23 : decode cX5_enter 23 = .ok (.iload_n 1, 1) := by decide +kernel
theorem dX5_enter_24 : decode cX5_enter 24 = .ok (.invokevirtual 177, 3) := by decide +kernel
theorem dX5_enter_27 : decode cX5_enter 27 = .ok (.ifCond .lt 21, 3) := by decide +kernel
theorem dX5_enter_30 : decode cX5_enter 30 = .ok (.aload_n 0, 1) := by decide +kernel
theorem dX5_enter_31 : decode cX5_enter 31 = .ok (.iload_n 2, 1) := by decide +kernel
theorem dX5_enter_32 : decode cX5_enter 32 = .ok (.iload 4, 2) := by decide +kernel
theorem dX5_enter_34 : decode cX5_enter 34 = .ok (.invokevirtual 181, 3) := by decide +kernel
theorem dX5_enter_37 : decode cX5_enter 37 = .ok (.aload_n 0, 1) := by decide +kernel
theorem dX5_enter_38 : decode cX5_enter 38 = .ok (.iload_n 1, 1) := by decide +kernel
theorem dX5_enter_39 : decode cX5_enter 39 = .ok (.putfield 112, 3) := by decide +kernel
theorem dX5_enter_42 : decode cX5_enter 42 = .ok (.aload_n 0, 1) := by decide +kernel
theorem dX5_enter_43 : decode cX5_enter 43 = .ok (.iconst 5, 1) := by decide +kernel
theorem dX5_enter_44 : decode cX5_enter 44 = .ok (.putfield 55, 3) := by decide +kernel
theorem dX5_enter_47 : decode cX5_enter 47 = .ok (.return_, 1) := by decide +kernel
theorem dX5_enter_48 : decode cX5_enter 48 = .ok (.aload_n 0, 1) := by decide +kernel
theorem dX5_enter_49 : decode cX5_enter 49 = .ok (.getfield 62, 3) := by decide +kernel
theorem dX5_enter_52 : decode cX5_enter 52 = .ok (.aload_n 3, 1) := by decide +kernel
theorem dX5_enter_53 : decode cX5_enter 53 = .ok (.getfield 184, 3) := by decide +kernel
theorem dX5_enter_56 : decode cX5_enter 56 = .ok (.iadd, 1) := by decide +kernel
theorem dX5_enter_57 : decode cX5_enter 57 = .ok (.aload_n 3, 1) := by decide +kernel
theorem dX5_enter_58 : decode cX5_enter 58 = .ok (.getfield 187, 3) := by decide +kernel
theorem dX5_enter_61 : decode cX5_enter 61 = .ok (.iadd, 1) := by decide +kernel
theorem dX5_enter_62 : decode cX5_enter 62 = .ok (.istore 5, 2) := by decide +kernel
theorem dX5_enter_64 : decode cX5_enter 64 = .ok (.aload_n 0, 1) := by decide +kernel
theorem dX5_enter_65 : decode cX5_enter 65 = .ok (.getfield 59, 3) := by decide +kernel
theorem dX5_enter_68 : decode cX5_enter 68 = .ok (.ifCond .lt 21, 3) := by decide +kernel
theorem dX5_enter_71 : decode cX5_enter 71 = .ok (.aload_n 0, 1) := by decide +kernel
theorem dX5_enter_72 : decode cX5_enter 72 = .ok (.getfield 59, 3) := by decide +kernel
theorem dX5_enter_75 : decode cX5_enter 75 = .ok (.sipush 200, 3) := by decide +kernel
theorem dX5_enter_78 : decode cX5_enter 78 = .ok (.if_icmp .ge 11, 3) := by decide +kernel
theorem dX5_enter_81 : decode cX5_enter 81 = .ok (.iload 5, 2) := by decide +kernel
theorem dX5_enter_83 : decode cX5_enter 83 = .ok (.sipush 4096, 3) := by decide +kernel
theorem dX5_enter_86 : decode cX5_enter 86 = .ok (.if_icmp .le 9, 3) := by decide +kernel
theorem dX5_enter_89 : decode cX5_enter 89 = .ok (.aload_n 0, 1) := by decide +kernel
theorem dX5_enter_90 : decode cX5_enter 90 = .ok (.iconst 4, 1) := by decide +kernel
theorem dX5_enter_91 : decode cX5_enter 91 = .ok (.invokevirtual 74, 3) := by decide +kernel
theorem dX5_enter_94 : decode cX5_enter 94 = .ok (.return_, 1) := by decide +kernel
theorem dX5_enter_95 : decode cX5_enter 95 = .ok (.aload_n 0, 1) := by decide +kernel
theorem dX5_enter_96 : decode cX5_enter 96 = .ok (.aload_n 0, 1) := by decide +kernel
theorem dX5_enter_97 : decode cX5_enter 97 = .ok (.getfield 20, 3) := by decide +kernel
theorem dX5_enter_100 : decode cX5_enter 100 = .ok (.aload_n 0, 1) := by decide +kernel
theorem dX5_enter_101 : decode cX5_enter 101 = .ok (.getfield 59, 3) := by decide +kernel
theorem dX5_enter_104 : decode cX5_enter 104 = .ok (.aaload, 1) := by decide +kernel
theorem dX5_enter_105 : decode cX5_enter 105 = .ok (.putfield 51, 3) := by decide +kernel
theorem dX5_enter_108 : decode cX5_enter 108 = .ok (.aload_n 0, 1) := by decide +kernel
theorem dX5_enter_109 : decode cX5_enter 109 = .ok (.dup, 1) := by decide +kernel
theorem dX5_enter_110 : decode cX5_enter 110 = .ok (.getfield 59, 3) := by decide +kernel
theorem dX5_enter_113 : decode cX5_enter 113 = .ok (.iconst 1, 1) := by decide +kernel
theorem dX5_enter_114 : decode cX5_enter 114 = .ok (.iadd, 1) := by decide +kernel
theorem dX5_enter_115 : decode cX5_enter 115 = .ok (.putfield 59, 3) := by decide +kernel
theorem dX5_enter_118 : decode cX5_enter 118 = .ok (.aload_n 0, 1) := by decide +kernel
theorem dX5_enter_119 : decode cX5_enter 119 = .ok (.getfield 51, 3) := by decide +kernel
theorem dX5_enter_122 : decode cX5_enter 122 = .ok (.aload_n 0, 1) := by decide +kernel
theorem dX5_enter_123 : decode cX5_enter 123 = .ok (.getfield 24, 3) := by decide +kernel
theorem dX5_enter_126 : decode cX5_enter 126 = .ok (.iload_n 1, 1) := by decide +kernel
theorem dX5_enter_127 : decode cX5_enter 127 = .ok (.invokevirtual 190, 3) := by decide +kernel
theorem dX5_enter_130 : decode cX5_enter 130 = .ok (.putfield 193, 3) := by decide +kernel
theorem dX5_enter_133 : decode cX5_enter 133 = .ok (.aload_n 0, 1) := by decide +kernel
theorem dX5_enter_134 : decode cX5_enter 134 = .ok (.getfield 51, 3) := by decide +kernel
theorem dX5_enter_137 : decode cX5_enter 137 = .ok (.aload_n 3, 1) := by decide +kernel
theorem dX5_enter_138 : decode cX5_enter 138 = .ok (.putfield 148, 3) := by decide +kernel
theorem dX5_enter_141 : decode cX5_enter 141 = .ok (.aload_n 0, 1) := by decide +kernel
theorem dX5_enter_142 : decode cX5_enter 142 = .ok (.getfield 51, 3) := by decide +kernel
theorem dX5_enter_145 : decode cX5_enter 145 = .ok (.aload_n 3, 1) := by decide +kernel
theorem dX5_enter_146 : decode cX5_enter 146 = .ok (.getfield 197, 3) := by decide +kernel
theorem dX5_enter_149 : decode cX5_enter 149 = .ok (.putfield 131, 3) := by decide +kernel
theorem dX5_enter_152 : decode cX5_enter 152 = .ok (.aload_n 0, 1) := by decide +kernel
theorem dX5_enter_153 : decode cX5_enter 153 = .ok (.getfield 51, 3) := by decide +kernel
theorem dX5_enter_156 : decode cX5_enter 156 = .ok (.iconst 0, 1) := by decide +kernel
theorem dX5_enter_157 : decode cX5_enter 157 = .ok (.putfield 128, 3) := by decide +kernel
theorem dX5_enter_160 : decode cX5_enter 160 = .ok (.aload_n 0, 1) := by decide +kernel
theorem dX5_enter_161 : decode cX5_enter 161 = .ok (.getfield 51, 3) := by decide +kernel
theorem dX5_enter_164 : decode cX5_enter 164 = .ok (.aload_n 0, 1) := by decide +kernel
theorem dX5_enter_165 : decode cX5_enter 165 = .ok (.getfield 62, 3) := by decide +kernel
theorem dX5_enter_168 : decode cX5_enter 168 = .ok (.putfield 198, 3) := by decide +kernel
theorem dX5_enter_171 : decode cX5_enter 171 = .ok (.aload_n 0, 1) := by decide +kernel
theorem dX5_enter_172 : decode cX5_enter 172 = .ok (.getfield 51, 3) := by decide +kernel
theorem dX5_enter_175 : decode cX5_enter 175 = .ok (.aload_n 0, 1) := by decide +kernel
theorem dX5_enter_176 : decode cX5_enter 176 = .ok (.getfield 62, 3) := by decide +kernel
theorem dX5_enter_179 : decode cX5_enter 179 = .ok (.aload_n 3, 1) := by decide +kernel
theorem dX5_enter_180 : decode cX5_enter 180 = .ok (.getfield 184, 3) := by decide +kernel
theorem dX5_enter_183 : decode cX5_enter 183 = .ok (.iadd, 1) := by decide +kernel
theorem dX5_enter_184 : decode cX5_enter 184 = .ok (.putfield 118, 3) := by decide +kernel
theorem dX5_enter_187 : decode cX5_enter 187 = .ok (.aload_n 0, 1) := by decide +kernel
theorem dX5_enter_188 : decode cX5_enter 188 = .ok (.getfield 51, 3) := by decide +kernel
theorem dX5_enter_191 : decode cX5_enter 191 = .ok (.iconst 1, 1) := by decide +kernel
theorem dX5_enter_192 : decode cX5_enter 192 = .ok (.putfield 145, 3) := by decide +kernel
theorem dX5_enter_195 : decode cX5_enter 195 = .ok (.aload_n 0, 1) := by decide +kernel
theorem dX5_enter_196 : decode cX5_enter 196 = .ok (.getfield 51, 3) := by decide +kernel
theorem dX5_enter_199 : decode cX5_enter 199 = .ok (.aload_n 0, 1) := by decide +kernel
theorem dX5_enter_200 : decode cX5_enter 200 = .ok (.getfield 24, 3) := by decide +kernel
theorem dX5_enter_203 : decode cX5_enter 203 = .ok (.iload_n 1, 1) := by decide +kernel
theorem dX5_enter_204 : decode cX5_enter 204 = .ok (.aload_n 0, 1) := by decide +kernel
theorem dX5_enter_205 : decode cX5_enter 205 = .ok (.getfield 201, 3) := by decide +kernel
theorem dX5_enter_208 : decode cX5_enter 208 = .ok (.invokevirtual 204, 3) := by decide +kernel
theorem dX5_enter_211 : decode cX5_enter 211 = .ok (.putfield 121, 3) := by decide +kernel
theorem dX5_enter_214 : decode cX5_enter 214 = .ok (.aload_n 0, 1) := by decide +kernel
theorem dX5_enter_215 : decode cX5_enter 215 = .ok (.getfield 15, 3) := by decide +kernel
theorem dX5_enter_218 : decode cX5_enter 218 = .ok (.iload_n 2, 1) := by decide +kernel
theorem dX5_enter_219 : decode cX5_enter 219 = .ok (.aload_n 0, 1) := by decide +kernel
theorem dX5_enter_220 : decode cX5_enter 220 = .ok (.getfield 62, 3) := by decide +kernel
theorem dX5_enter_223 : decode cX5_enter 223 = .ok (.iload 4, 2) := by decide +kernel
theorem dX5_enter_225 : decode cX5_enter 225 = .ok (.invokestatic 208, 3) := by decide +kernel
theorem dX5_enter_228 : decode cX5_enter 228 = .ok (.aload_n 0, 1) := by decide +kernel
theorem dX5_enter_229 : decode cX5_enter 229 = .ok (.aload_n 3, 1) := by decide +kernel
theorem dX5_enter_230 : decode cX5_enter 230 = .ok (.iload 4, 2) := by decide +kernel
theorem dX5_enter_232 : decode cX5_enter 232 = .ok (.invokevirtual 212, 3) := by decide +kernel
theorem dX5_enter_235 : decode cX5_enter 235 = .ok (.aload_n 0, 1) := by decide +kernel
theorem dX5_enter_236 : decode cX5_enter 236 = .ok (.iload 5, 2) := by decide +kernel
theorem dX5_enter_238 : decode cX5_enter 238 = .ok (.putfield 62, 3) := by decide +kernel
theorem dX5_enter_241 : decode cX5_enter 241 = .ok (.return_, 1) := by decide +kernel
noncomputable def fX5_enter (h : pm_H) (a0 : Nat) (p1 : Int32) (p2 : Int32) : Option pm_H := if pm_kd h a0 = 5 then (pm_R h a0 8).bind fun v2 => if pm_kd h v2 = 10 then (fX10_bodyOf h v2 p1).bind fun v5 => if pm_kd h v5 = 0 then (pm_R h v5 0).bind fun v8 => (fX12_item h v8 0).bind fun v10 => (fX10_hostNumber h v2 p1).bind fun v12 => if v12 < 0 then (pm_let (((pm_I h a0 13) + (pm_I h v5 3)) + (pm_I h v5 4)) fun y15 => if (pm_I h a0 3) < 0 then ((fX5_stop h a0 4).bind fun v18 => some v18) else (if 200 ≤ (pm_I h a0 3) then ((fX5_stop h a0 4).bind fun v21 => some v21) else (if y15 ≤ 4096 then ((pm_R h a0 11).bind fun v24 => pm_let (pm_I h a0 3) fun y26 => if pm_kd h v24 = 39 then if pm_in y26 (pm_ln h v24) then (pm_R h v24 y26.toNatClampNeg).bind fun v30 => pm_let ((pm_I (pm_setR h a0 12 (some v30)) a0 3) + 1) fun y32 => (pm_R (pm_setI (pm_setR h a0 12 (some v30)) a0 3 y32) a0 12).bind fun v34 => (pm_R (pm_setI (pm_setR h a0 12 (some v30)) a0 3 y32) a0 8).bind fun v36 => if pm_kd (pm_setI (pm_setR h a0 12 (some v30)) a0 3 y32) v36 = 10 then (fX10_homeOf (pm_setI (pm_setR h a0 12 (some v30)) a0 3 y32) v36 p1).bind fun v39 => if pm_kd (pm_setI (pm_setR h a0 12 (some v30)) a0 3 y32) v34 = 3 then (pm_R (pm_setR (pm_setI (pm_setR h a0 12 (some v30)) a0 3 y32) v34 0 (some v39)) a0 12).bind fun v42 => if pm_kd (pm_setR (pm_setI (pm_setR h a0 12 (some v30)) a0 3 y32) v34 0 (some v39)) v42 = 3 then (pm_R (pm_setR (pm_setR (pm_setI (pm_setR h a0 12 (some v30)) a0 3 y32) v34 0 (some v39)) v42 1 (some v5)) a0 12).bind fun v45 => (pm_R (pm_setR (pm_setR (pm_setI (pm_setR h a0 12 (some v30)) a0 3 y32) v34 0 (some v39)) v42 1 (some v5)) v5 1).bind fun v47 => if pm_kd (pm_setR (pm_setR (pm_setI (pm_setR h a0 12 (some v30)) a0 3 y32) v34 0 (some v39)) v42 1 (some v5)) v45 = 3 then (pm_R (pm_setR (pm_setR (pm_setR (pm_setI (pm_setR h a0 12 (some v30)) a0 3 y32) v34 0 (some v39)) v42 1 (some v5)) v45 2 (some v47)) a0 12).bind fun v50 => if pm_kd (pm_setR (pm_setR (pm_setR (pm_setI (pm_setR h a0 12 (some v30)) a0 3 y32) v34 0 (some v39)) v42 1 (some v5)) v45 2 (some v47)) v50 = 3 then pm_let (pm_I (pm_setI (pm_setR (pm_setR (pm_setR (pm_setI (pm_setR h a0 12 (some v30)) a0 3 y32) v34 0 (some v39)) v42 1 (some v5)) v45 2 (some v47)) v50 3 0) a0 13) fun y53 => pm_let ((pm_I (pm_setI (pm_setI (pm_setR (pm_setR (pm_setR (pm_setI (pm_setR h a0 12 (some v30)) a0 3 y32) v34 0 (some v39)) v42 1 (some v5)) v45 2 (some v47)) v50 3 0) v50 4 y53) a0 13) + (pm_I (pm_setI (pm_setI (pm_setR (pm_setR (pm_setR (pm_setI (pm_setR h a0 12 (some v30)) a0 3 y32) v34 0 (some v39)) v42 1 (some v5)) v45 2 (some v47)) v50 3 0) v50 4 y53) v5 3)) fun y55 => (pm_R (pm_setI (pm_setI (pm_setI (pm_setI (pm_setR (pm_setR (pm_setR (pm_setI (pm_setR h a0 12 (some v30)) a0 3 y32) v34 0 (some v39)) v42 1 (some v5)) v45 2 (some v47)) v50 3 0) v50 4 y53) v50 5 y55) v50 6 1) a0 8).bind fun v57 => if pm_kd (pm_setI (pm_setI (pm_setI (pm_setI (pm_setR (pm_setR (pm_setR (pm_setI (pm_setR h a0 12 (some v30)) a0 3 y32) v34 0 (some v39)) v42 1 (some v5)) v45 2 (some v47)) v50 3 0) v50 4 y53) v50 5 y55) v50 6 1) v57 = 10 then (fX10_countFrame (pm_setI (pm_setI (pm_setI (pm_setI (pm_setR (pm_setR (pm_setR (pm_setI (pm_setR h a0 12 (some v30)) a0 3 y32) v34 0 (some v39)) v42 1 (some v5)) v45 2 (some v47)) v50 3 0) v50 4 y53) v50 5 y55) v50 6 1) v57 p1 (pm_I (pm_setI (pm_setI (pm_setI (pm_setI (pm_setR (pm_setR (pm_setR (pm_setI (pm_setR h a0 12 (some v30)) a0 3 y32) v34 0 (some v39)) v42 1 (some v5)) v45 2 (some v47)) v50 3 0) v50 4 y53) v50 5 y55) v50 6 1) a0 5)).bind fun v60 => if pm_kd v60.2 v50 = 3 then if v60.1 = 0 ∨ v60.1 = 1 then if pm_kd (pm_setI v60.2 v50 7 v60.1) a0 = 5 then (pm_R (pm_setI v60.2 v50 7 v60.1) a0 10).bind fun v65 => (fX12_move (pm_setI v60.2 v50 7 v60.1) v65 p2 (pm_I (pm_setI v60.2 v50 7 v60.1) a0 13) v10).bind fun v67 => if pm_kd v67 a0 = 5 then (fX5_clearLocals v67 a0 v5 v10).bind fun v70 => if pm_kd v70 a0 = 5 then some (pm_setI v70 a0 13 y15) else none else none else none else none else none else none else none else none else none else none else none else none else none) else ((fX5_stop h a0 4).bind fun v73 => some v73)))) else ((fX5_tell h a0 p2 v10).bind fun v75 => if pm_kd v75 a0 = 5 then some (pm_setI (pm_setI v75 a0 4 p1) a0 0 5) else none) else none else none else none
set_option maxHeartbeats 4000000 in
set_option maxRecDepth 100000 in
theorem ctX5_enter {l : Launch} {G : pm_Gl} {h : pm_H} {a0 : Nat} {p1 : Int32} {p2 : Int32} {r : pm_H} {Qr : Option Value → pm_H → Prop} (hf : fX5_enter h a0 p1 p2 = some r) (q : Qr none r) : pm_Ct l G mX5_enter [.ref a0, .int p1, .int p2] h 0 0 Qr := by
  refine pm_body pnX5 (Nat.le_of_ble_eq_true rfl) (fun g C X => ?_)
  have C : pm_C g cX5_enter RX5 := C
  show pm_G g 0 [(0, .ref a0), (1, .int p1), (2, .int p2)] [] h 0 0
  unfold fX5_enter at hf
  refine pm_aload_n C dX5_enter_0 rfl rfl ?_
  obtain ⟨k1, hf⟩ := pm_if hf
  obtain ⟨v2, e3, hf⟩ := pm_bd hf
  refine pm_getR C dX5_enter_1 flX5_24 rfl k1 e3 ?_
  refine pm_iload_n C dX5_enter_4 rfl rfl ?_
  obtain ⟨k4, hf⟩ := pm_if hf
  obtain ⟨v5, e6, hf⟩ := pm_bd hf
  refine pm_callV (as := [.int p1]) (st := []) C X dX5_enter_5 lnX5_170 myX10_bodyOf viX10_bodyOf ⟨by decide, by decide⟩ rfl rfl k4 (Nat.le_of_ble_eq_true rfl) (Nat.le_refl _) (Nat.le_refl _) (ctX10_bodyOf e6 ?_)
  show pm_G g 8 [(0, .ref a0), (1, .int p1), (2, .int p2)] [.ref v5] h 0 0
  refine pm_astore_n (lv' := [(3, .ref v5), (0, .ref a0), (1, .int p1), (2, .int p2)]) C dX5_enter_8 rfl (pm_nl X (by decide)) rfl ?_
  refine pm_aload_n C dX5_enter_9 rfl rfl ?_
  obtain ⟨k7, hf⟩ := pm_if hf
  obtain ⟨v8, e9, hf⟩ := pm_bd hf
  refine pm_getR C dX5_enter_10 flX5_174 rfl k7 e9 ?_
  refine pm_iconst (v := 0) C dX5_enter_13 (by decide) ?_
  obtain ⟨v10, e11, hf⟩ := pm_bd hf
  refine pm_callS (as := [.ref v8, .int 0]) (st := []) C X dX5_enter_14 lnX5_88 myX12_item stX12_item ⟨by decide, by decide⟩ rfl rfl (Nat.le_of_ble_eq_true rfl) (Nat.le_refl _) (Nat.le_refl _) (ctX12_item e11 ?_)
  show pm_G g 17 [(3, .ref v5), (0, .ref a0), (1, .int p1), (2, .int p2)] [.int v10] h 0 0
  refine pm_istore (lv' := [(4, .int v10), (3, .ref v5), (0, .ref a0), (1, .int p1), (2, .int p2)]) C dX5_enter_17 (pm_nl X (by decide)) rfl ?_
  refine pm_aload_n C dX5_enter_19 rfl rfl ?_
  refine pm_getR C dX5_enter_20 flX5_24 rfl k1 e3 ?_
  refine pm_iload_n C dX5_enter_23 rfl rfl ?_
  obtain ⟨v12, e13, hf⟩ := pm_bd hf
  refine pm_callV (as := [.int p1]) (st := []) C X dX5_enter_24 lnX5_177 myX10_hostNumber viX10_hostNumber ⟨by decide, by decide⟩ rfl rfl k4 (Nat.le_of_ble_eq_true rfl) (Nat.le_refl _) (Nat.le_refl _) (ctX10_hostNumber e13 ?_)
  show pm_G g 27 [(4, .int v10), (3, .ref v5), (0, .ref a0), (1, .int p1), (2, .int p2)] [.int v12] h 0 0
  refine pm_if_lt (tgt := 48) C dX5_enter_27 (by decide) (fun c14 => ?_) (fun c14 => ?_)
  · have hf := pm_it hf c14
    refine pm_aload_n C dX5_enter_48 rfl rfl ?_
    refine pm_getI C dX5_enter_49 flX5_62 rfl k1 rfl ?_
    refine pm_aload_n C dX5_enter_52 rfl rfl ?_
    refine pm_getI C dX5_enter_53 flX5_184 rfl k7 rfl ?_
    refine pm_iadd C dX5_enter_56 ?_
    refine pm_aload_n C dX5_enter_57 rfl rfl ?_
    refine pm_getI C dX5_enter_58 flX5_187 rfl k7 rfl ?_
    refine pm_iadd C dX5_enter_61 ?_
    obtain ⟨y15, e16, hf⟩ := pm_lt hf
    refine pm_topI e16 ?_
    refine pm_istore (lv' := [(5, .int y15), (4, .int v10), (3, .ref v5), (0, .ref a0), (1, .int p1), (2, .int p2)]) C dX5_enter_62 (pm_nl X (by decide)) rfl ?_
    refine pm_aload_n C dX5_enter_64 rfl rfl ?_
    refine pm_getI C dX5_enter_65 flX5_59 rfl k1 rfl ?_
    refine pm_if_lt (tgt := 89) C dX5_enter_68 (by decide) (fun c17 => ?_) (fun c17 => ?_)
    · have hf := pm_it hf c17
      refine pm_aload_n C dX5_enter_89 rfl rfl ?_
      refine pm_iconst (v := 4) C dX5_enter_90 (by decide) ?_
      obtain ⟨v18, e19, hf⟩ := pm_bd hf
      refine pm_callV (as := [.int 4]) (st := []) C X dX5_enter_91 lnX5_74 myX5_stop viX5_stop ⟨by decide, by decide⟩ rfl rfl k1 (Nat.le_of_ble_eq_true rfl) (Nat.le_refl _) (Nat.le_refl _) (ctX5_stop e19 ?_)
      show pm_G g 94 [(5, .int y15), (4, .int v10), (3, .ref v5), (0, .ref a0), (1, .int p1), (2, .int p2)] [] v18 0 0
      cases hf
      exact pm_vret C X dX5_enter_94 rfl (Nat.le_refl _) (Nat.le_refl _) q
    · have hf := pm_ie hf c17
      refine pm_aload_n C dX5_enter_71 rfl rfl ?_
      refine pm_getI C dX5_enter_72 flX5_59 rfl k1 rfl ?_
      refine pm_sipush (v := 200) C dX5_enter_75 (by decide) ?_
      refine pm_icmp_ge (tgt := 89) C dX5_enter_78 (by decide) (fun c20 => ?_) (fun c20 => ?_)
      · have hf := pm_it hf c20
        refine pm_aload_n C dX5_enter_89 rfl rfl ?_
        refine pm_iconst (v := 4) C dX5_enter_90 (by decide) ?_
        obtain ⟨v21, e22, hf⟩ := pm_bd hf
        refine pm_callV (as := [.int 4]) (st := []) C X dX5_enter_91 lnX5_74 myX5_stop viX5_stop ⟨by decide, by decide⟩ rfl rfl k1 (Nat.le_of_ble_eq_true rfl) (Nat.le_refl _) (Nat.le_refl _) (ctX5_stop e22 ?_)
        show pm_G g 94 [(5, .int y15), (4, .int v10), (3, .ref v5), (0, .ref a0), (1, .int p1), (2, .int p2)] [] v21 0 0
        cases hf
        exact pm_vret C X dX5_enter_94 rfl (Nat.le_refl _) (Nat.le_refl _) q
      · have hf := pm_ie hf c20
        refine pm_iload C dX5_enter_81 rfl ?_
        refine pm_sipush (v := 4096) C dX5_enter_83 (by decide) ?_
        refine pm_icmp_le (tgt := 95) C dX5_enter_86 (by decide) (fun c23 => ?_) (fun c23 => ?_)
        · have hf := pm_it hf c23
          refine pm_aload_n C dX5_enter_95 rfl rfl ?_
          refine pm_aload_n C dX5_enter_96 rfl rfl ?_
          obtain ⟨v24, e25, hf⟩ := pm_bd hf
          refine pm_getR C dX5_enter_97 flX5_20 rfl k1 e25 ?_
          refine pm_aload_n C dX5_enter_100 rfl rfl ?_
          refine pm_getI C dX5_enter_101 flX5_59 rfl k1 rfl ?_
          obtain ⟨y26, e27, hf⟩ := pm_lt hf
          refine pm_topI e27 ?_
          obtain ⟨k28, hf⟩ := pm_if hf
          obtain ⟨u29, hf⟩ := pm_if hf
          obtain ⟨v30, e31, hf⟩ := pm_bd hf
          refine pm_ald (t := 7) C dX5_enter_104 (by decide) rfl k28 u29 e31 ?_
          refine pm_putR C dX5_enter_105 flX5_51 rfl rfl k1 ?_
          refine pm_aload_n C dX5_enter_108 rfl rfl ?_
          refine pm_dup C dX5_enter_109 rfl ?_
          refine pm_getI C dX5_enter_110 flX5_59 rfl k1 rfl ?_
          refine pm_iconst (v := 1) C dX5_enter_113 (by decide) ?_
          refine pm_iadd C dX5_enter_114 ?_
          obtain ⟨y32, e33, hf⟩ := pm_lt hf
          refine pm_topI e33 ?_
          refine pm_putI C dX5_enter_115 flX5_59 rfl rfl k1 rfl rfl ?_
          refine pm_aload_n C dX5_enter_118 rfl rfl ?_
          obtain ⟨v34, e35, hf⟩ := pm_bd hf
          refine pm_getR C dX5_enter_119 flX5_51 rfl k1 e35 ?_
          refine pm_aload_n C dX5_enter_122 rfl rfl ?_
          obtain ⟨v36, e37, hf⟩ := pm_bd hf
          refine pm_getR C dX5_enter_123 flX5_24 rfl k1 e37 ?_
          refine pm_iload_n C dX5_enter_126 rfl rfl ?_
          obtain ⟨k38, hf⟩ := pm_if hf
          obtain ⟨v39, e40, hf⟩ := pm_bd hf
          refine pm_callV (as := [.int p1]) (st := [.ref v34]) C X dX5_enter_127 lnX5_190 myX10_homeOf viX10_homeOf ⟨by decide, by decide⟩ rfl rfl k38 (Nat.le_of_ble_eq_true rfl) (Nat.le_refl _) (Nat.le_refl _) (ctX10_homeOf e40 ?_)
          show pm_G g 130 [(5, .int y15), (4, .int v10), (3, .ref v5), (0, .ref a0), (1, .int p1), (2, .int p2)] [.ref v39, .ref v34] (pm_setI (pm_setR h a0 12 (some v30)) a0 3 y32) 0 0
          obtain ⟨k41, hf⟩ := pm_if hf
          refine pm_putR C dX5_enter_130 flX5_193 rfl rfl k41 ?_
          refine pm_aload_n C dX5_enter_133 rfl rfl ?_
          obtain ⟨v42, e43, hf⟩ := pm_bd hf
          refine pm_getR C dX5_enter_134 flX5_51 rfl k1 e43 ?_
          refine pm_aload_n C dX5_enter_137 rfl rfl ?_
          obtain ⟨k44, hf⟩ := pm_if hf
          refine pm_putR C dX5_enter_138 flX5_148 rfl rfl k44 ?_
          refine pm_aload_n C dX5_enter_141 rfl rfl ?_
          obtain ⟨v45, e46, hf⟩ := pm_bd hf
          refine pm_getR C dX5_enter_142 flX5_51 rfl k1 e46 ?_
          refine pm_aload_n C dX5_enter_145 rfl rfl ?_
          obtain ⟨v47, e48, hf⟩ := pm_bd hf
          refine pm_getR C dX5_enter_146 flX5_197 rfl k7 e48 ?_
          obtain ⟨k49, hf⟩ := pm_if hf
          refine pm_putR C dX5_enter_149 flX5_131 rfl rfl k49 ?_
          refine pm_aload_n C dX5_enter_152 rfl rfl ?_
          obtain ⟨v50, e51, hf⟩ := pm_bd hf
          refine pm_getR C dX5_enter_153 flX5_51 rfl k1 e51 ?_
          refine pm_iconst (v := 0) C dX5_enter_156 (by decide) ?_
          obtain ⟨k52, hf⟩ := pm_if hf
          refine pm_putI C dX5_enter_157 flX5_128 rfl rfl k52 rfl rfl ?_
          refine pm_aload_n C dX5_enter_160 rfl rfl ?_
          refine pm_getR C dX5_enter_161 flX5_51 rfl k1 e51 ?_
          refine pm_aload_n C dX5_enter_164 rfl rfl ?_
          refine pm_getI C dX5_enter_165 flX5_62 rfl k1 rfl ?_
          obtain ⟨y53, e54, hf⟩ := pm_lt hf
          refine pm_topI e54 ?_
          refine pm_putI C dX5_enter_168 flX5_198 rfl rfl k52 rfl rfl ?_
          refine pm_aload_n C dX5_enter_171 rfl rfl ?_
          refine pm_getR C dX5_enter_172 flX5_51 rfl k1 e51 ?_
          refine pm_aload_n C dX5_enter_175 rfl rfl ?_
          refine pm_getI C dX5_enter_176 flX5_62 rfl k1 rfl ?_
          refine pm_aload_n C dX5_enter_179 rfl rfl ?_
          refine pm_getI C dX5_enter_180 flX5_184 rfl k7 rfl ?_
          refine pm_iadd C dX5_enter_183 ?_
          obtain ⟨y55, e56, hf⟩ := pm_lt hf
          refine pm_topI e56 ?_
          refine pm_putI C dX5_enter_184 flX5_118 rfl rfl k52 rfl rfl ?_
          refine pm_aload_n C dX5_enter_187 rfl rfl ?_
          refine pm_getR C dX5_enter_188 flX5_51 rfl k1 e51 ?_
          refine pm_iconst (v := 1) C dX5_enter_191 (by decide) ?_
          refine pm_putI C dX5_enter_192 flX5_145 rfl rfl k52 (by decide) (by decide) ?_
          refine pm_aload_n C dX5_enter_195 rfl rfl ?_
          refine pm_getR C dX5_enter_196 flX5_51 rfl k1 e51 ?_
          refine pm_aload_n C dX5_enter_199 rfl rfl ?_
          obtain ⟨v57, e58, hf⟩ := pm_bd hf
          refine pm_getR C dX5_enter_200 flX5_24 rfl k1 e58 ?_
          refine pm_iload_n C dX5_enter_203 rfl rfl ?_
          refine pm_aload_n C dX5_enter_204 rfl rfl ?_
          refine pm_getI C dX5_enter_205 flX5_201 rfl k1 rfl ?_
          obtain ⟨k59, hf⟩ := pm_if hf
          obtain ⟨v60, e61, hf⟩ := pm_bd hf
          refine pm_callV (as := [.int p1, .int (pm_I (pm_setI (pm_setI (pm_setI (pm_setI (pm_setR (pm_setR (pm_setR (pm_setI (pm_setR h a0 12 (some v30)) a0 3 y32) v34 0 (some v39)) v42 1 (some v5)) v45 2 (some v47)) v50 3 0) v50 4 y53) v50 5 y55) v50 6 1) a0 5)]) (st := [.ref v50]) C X dX5_enter_208 lnX5_204 myX10_countFrame viX10_countFrame ⟨by decide, by decide⟩ rfl rfl k59 (Nat.le_of_ble_eq_true rfl) (Nat.le_refl _) (Nat.le_refl _) (ctX10_countFrame e61 ?_)
          show pm_G g 211 [(5, .int y15), (4, .int v10), (3, .ref v5), (0, .ref a0), (1, .int p1), (2, .int p2)] [.int v60.1, .ref v50] v60.2 0 0
          obtain ⟨k62, hf⟩ := pm_if hf
          obtain ⟨u63, hf⟩ := pm_if hf
          refine pm_putI C dX5_enter_211 flX5_121 rfl rfl k62 (pm_b01 u63).1 (pm_b01 u63).2 ?_
          refine pm_aload_n C dX5_enter_214 rfl rfl ?_
          obtain ⟨k64, hf⟩ := pm_if hf
          obtain ⟨v65, e66, hf⟩ := pm_bd hf
          refine pm_getR C dX5_enter_215 flX5_15 rfl k64 e66 ?_
          refine pm_iload_n C dX5_enter_218 rfl rfl ?_
          refine pm_aload_n C dX5_enter_219 rfl rfl ?_
          refine pm_getI C dX5_enter_220 flX5_62 rfl k64 rfl ?_
          refine pm_iload C dX5_enter_223 rfl ?_
          obtain ⟨v67, e68, hf⟩ := pm_bd hf
          refine pm_callS (as := [.ref v65, .int p2, .int (pm_I (pm_setI v60.2 v50 7 v60.1) a0 13), .int v10]) (st := []) C X dX5_enter_225 lnX5_208 myX12_move stX12_move ⟨by decide, by decide⟩ rfl rfl (Nat.le_of_ble_eq_true rfl) (Nat.le_refl _) (Nat.le_refl _) (ctX12_move e68 ?_)
          show pm_G g 228 [(5, .int y15), (4, .int v10), (3, .ref v5), (0, .ref a0), (1, .int p1), (2, .int p2)] [] v67 0 0
          refine pm_aload_n C dX5_enter_228 rfl rfl ?_
          refine pm_aload_n C dX5_enter_229 rfl rfl ?_
          refine pm_iload C dX5_enter_230 rfl ?_
          obtain ⟨k69, hf⟩ := pm_if hf
          obtain ⟨v70, e71, hf⟩ := pm_bd hf
          refine pm_callV (as := [.ref v5, .int v10]) (st := []) C X dX5_enter_232 lnX5_212 myX5_clearLocals viX5_clearLocals ⟨by decide, by decide⟩ rfl rfl k69 (Nat.le_of_ble_eq_true rfl) (Nat.le_refl _) (Nat.le_refl _) (ctX5_clearLocals e71 ?_)
          show pm_G g 235 [(5, .int y15), (4, .int v10), (3, .ref v5), (0, .ref a0), (1, .int p1), (2, .int p2)] [] v70 0 0
          refine pm_aload_n C dX5_enter_235 rfl rfl ?_
          refine pm_iload C dX5_enter_236 rfl ?_
          obtain ⟨k72, hf⟩ := pm_if hf
          refine pm_putI C dX5_enter_238 flX5_62 rfl rfl k72 rfl rfl ?_
          cases hf
          exact pm_vret C X dX5_enter_241 rfl (Nat.le_refl _) (Nat.le_refl _) q
        · have hf := pm_ie hf c23
          refine pm_aload_n C dX5_enter_89 rfl rfl ?_
          refine pm_iconst (v := 4) C dX5_enter_90 (by decide) ?_
          obtain ⟨v73, e74, hf⟩ := pm_bd hf
          refine pm_callV (as := [.int 4]) (st := []) C X dX5_enter_91 lnX5_74 myX5_stop viX5_stop ⟨by decide, by decide⟩ rfl rfl k1 (Nat.le_of_ble_eq_true rfl) (Nat.le_refl _) (Nat.le_refl _) (ctX5_stop e74 ?_)
          show pm_G g 94 [(5, .int y15), (4, .int v10), (3, .ref v5), (0, .ref a0), (1, .int p1), (2, .int p2)] [] v73 0 0
          cases hf
          exact pm_vret C X dX5_enter_94 rfl (Nat.le_refl _) (Nat.le_refl _) q
  · have hf := pm_ie hf c14
    refine pm_aload_n C dX5_enter_30 rfl rfl ?_
    refine pm_iload_n C dX5_enter_31 rfl rfl ?_
    refine pm_iload C dX5_enter_32 rfl ?_
    obtain ⟨v75, e76, hf⟩ := pm_bd hf
    refine pm_callV (as := [.int p2, .int v10]) (st := []) C X dX5_enter_34 lnX5_181 myX5_tell viX5_tell ⟨by decide, by decide⟩ rfl rfl k1 (Nat.le_of_ble_eq_true rfl) (Nat.le_refl _) (Nat.le_refl _) (ctX5_tell e76 ?_)
    show pm_G g 37 [(4, .int v10), (3, .ref v5), (0, .ref a0), (1, .int p1), (2, .int p2)] [] v75 0 0
    refine pm_aload_n C dX5_enter_37 rfl rfl ?_
    refine pm_iload_n C dX5_enter_38 rfl rfl ?_
    obtain ⟨k77, hf⟩ := pm_if hf
    refine pm_putI C dX5_enter_39 flX5_112 rfl rfl k77 rfl rfl ?_
    refine pm_aload_n C dX5_enter_42 rfl rfl ?_
    refine pm_iconst (v := 5) C dX5_enter_43 (by decide) ?_
    refine pm_putI C dX5_enter_44 flX5_55 rfl rfl k77 rfl rfl ?_
    cases hf
    exact pm_vret C X dX5_enter_47 rfl (Nat.le_refl _) (Nat.le_refl _) q
theorem dX5_leave_0 : decode cX5_leave 0 = .ok (.aload_n 0, 1) := by decide +kernel
theorem dX5_leave_1 : decode cX5_leave 1 = .ok (.getfield 51, 3) := by decide +kernel
theorem dX5_leave_4 : decode cX5_leave 4 = .ok (.getfield 198, 3) := by decide +kernel
theorem dX5_leave_7 : decode cX5_leave 7 = .ok (.aload_n 0, 1) := by decide +kernel
theorem dX5_leave_8 : decode cX5_leave 8 = .ok (.getfield 51, 3) := by decide +kernel
theorem dX5_leave_11 : decode cX5_leave 11 = .ok (.getfield 148, 3) := by decide +kernel
theorem dX5_leave_14 : decode cX5_leave 14 = .ok (.getfield 184, 3) := by decide +kernel
theorem dX5_leave_17 : decode cX5_leave 17 = .ok (.iadd, 1) := by decide +kernel
theorem dX5_leave_18 : decode cX5_leave 18 = .ok (.istore_n 1, 1) := by decide +kernel
theorem dX5_leave_19 : decode cX5_leave 19 = .ok (.aload_n 0, 1) := by decide +kernel
theorem dX5_leave_20 : decode cX5_leave 20 = .ok (.getfield 51, 3) := by decide +kernel
theorem dX5_leave_23 : decode cX5_leave 23 = .ok (.getfield 148, 3) := by decide +kernel
theorem dX5_leave_26 : decode cX5_leave 26 = .ok (.getfield 174, 3) := by decide +kernel
theorem dX5_leave_29 : decode cX5_leave 29 = .ok (.iconst 1, 1) := by decide +kernel
theorem dX5_leave_30 : decode cX5_leave 30 = .ok (.invokestatic 88, 3) := by decide +kernel
theorem dX5_leave_33 : decode cX5_leave 33 = .ok (.istore_n 2, 1) := by decide +kernel
theorem dX5_leave_34 : decode cX5_leave 34 = .ok (.aload_n 0, 1) := by decide +kernel
theorem dX5_leave_35 : decode cX5_leave 35 = .ok (.dup, 1) := by decide +kernel
theorem dX5_leave_36 : decode cX5_leave 36 = .ok (.getfield 59, 3) := by decide +kernel
theorem dX5_leave_39 : decode cX5_leave 39 = .ok (.iconst 1, 1) := by decide +kernel
theorem dX5_leave_40 : decode cX5_leave 40 = .ok (.isub, 1) := by decide +kernel
theorem dX5_leave_41 : decode cX5_leave 41 = .ok (.putfield 59, 3) := by decide +kernel
theorem dX5_leave_44 : decode cX5_leave 44 = .ok (.aload_n 0, 1) := by decide +kernel
theorem dX5_leave_45 : decode cX5_leave 45 = .ok (.aload_n 0, 1) := by decide +kernel
theorem dX5_leave_46 : decode cX5_leave 46 = .ok (.getfield 51, 3) := by decide +kernel
theorem dX5_leave_49 : decode cX5_leave 49 = .ok (.getfield 198, 3) := by decide +kernel
theorem dX5_leave_52 : decode cX5_leave 52 = .ok (.putfield 62, 3) := by decide +kernel
theorem dX5_leave_55 : decode cX5_leave 55 = .ok (.aload_n 0, 1) := by decide +kernel
theorem dX5_leave_56 : decode cX5_leave 56 = .ok (.getfield 59, 3) := by decide +kernel
theorem dX5_leave_59 : decode cX5_leave 59 = .ok (.ifCond .le 13, 3) := by decide +kernel
theorem dX5_leave_62 : decode cX5_leave 62 = .ok (.aload_n 0, 1) := by decide +kernel
theorem dX5_leave_63 : decode cX5_leave 63 = .ok (.getfield 59, 3) := by decide +kernel
theorem dX5_leave_66 : decode cX5_leave 66 = .ok (.sipush 200, 3) := by decide +kernel
theorem dX5_leave_69 : decode cX5_leave 69 = .ok (.if_icmp .le 15, 3) := by decide +kernel
theorem dX5_leave_72 : decode cX5_leave 72 = .ok (.aload_n 0, 1) := by decide +kernel
theorem dX5_leave_73 : decode cX5_leave 73 = .ok (.iload_n 1, 1) := by decide +kernel
theorem dX5_leave_74 : decode cX5_leave 74 = .ok (.iload_n 2, 1) := by decide +kernel
theorem dX5_leave_75 : decode cX5_leave 75 = .ok (.invokevirtual 181, 3) := by decide +kernel
theorem dX5_leave_78 : decode cX5_leave 78 = .ok (.aload_n 0, 1) := by decide +kernel
theorem dX5_leave_79 : decode cX5_leave 79 = .ok (.iconst 2, 1) := by decide +kernel
theorem dX5_leave_80 : decode cX5_leave 80 = .ok (.invokevirtual 74, 3) := by decide +kernel
theorem dX5_leave_83 : decode cX5_leave 83 = .ok (.return_, 1) := by decide +kernel
theorem dX5_leave_84 : decode cX5_leave 84 = .ok (.aload_n 0, 1) := by decide +kernel
theorem dX5_leave_85 : decode cX5_leave 85 = .ok (.aload_n 0, 1) := by decide +kernel
theorem dX5_leave_86 : decode cX5_leave 86 = .ok (.getfield 20, 3) := by decide +kernel
theorem dX5_leave_89 : decode cX5_leave 89 = .ok (.aload_n 0, 1) := by decide +kernel
theorem dX5_leave_90 : decode cX5_leave 90 = .ok (.getfield 59, 3) := by decide +kernel
theorem dX5_leave_93 : decode cX5_leave 93 = .ok (.iconst 1, 1) := by decide +kernel
theorem dX5_leave_94 : decode cX5_leave 94 = .ok (.isub, 1) := by decide +kernel
theorem dX5_leave_95 : decode cX5_leave 95 = .ok (.aaload, 1) := by decide +kernel
theorem dX5_leave_96 : decode cX5_leave 96 = .ok (.putfield 51, 3) := by decide +kernel
theorem dX5_leave_99 : decode cX5_leave 99 = .ok (.aload_n 0, 1) := by decide +kernel
theorem dX5_leave_100 : decode cX5_leave 100 = .ok (.getfield 15, 3) := by decide +kernel
theorem dX5_leave_103 : decode cX5_leave 103 = .ok (.iload_n 1, 1) := by decide +kernel
theorem dX5_leave_104 : decode cX5_leave 104 = .ok (.aload_n 0, 1) := by decide +kernel
theorem dX5_leave_105 : decode cX5_leave 105 = .ok (.getfield 51, 3) := by decide +kernel
theorem dX5_leave_108 : decode cX5_leave 108 = .ok (.getfield 118, 3) := by decide +kernel
theorem dX5_leave_111 : decode cX5_leave 111 = .ok (.iload_n 2, 1) := by decide +kernel
theorem dX5_leave_112 : decode cX5_leave 112 = .ok (.invokestatic 208, 3) := by decide +kernel
theorem dX5_leave_115 : decode cX5_leave 115 = .ok (.aload_n 0, 1) := by decide +kernel
theorem dX5_leave_116 : decode cX5_leave 116 = .ok (.getfield 51, 3) := by decide +kernel
theorem dX5_leave_119 : decode cX5_leave 119 = .ok (.dup, 1) := by decide +kernel
theorem dX5_leave_120 : decode cX5_leave 120 = .ok (.getfield 118, 3) := by decide +kernel
theorem dX5_leave_123 : decode cX5_leave 123 = .ok (.iload_n 2, 1) := by decide +kernel
theorem dX5_leave_124 : decode cX5_leave 124 = .ok (.iadd, 1) := by decide +kernel
theorem dX5_leave_125 : decode cX5_leave 125 = .ok (.putfield 118, 3) := by decide +kernel
theorem dX5_leave_128 : decode cX5_leave 128 = .ok (.return_, 1) := by decide +kernel
noncomputable def fX5_leave (h : pm_H) (a0 : Nat) : Option pm_H := if pm_kd h a0 = 5 then (pm_R h a0 12).bind fun v2 => if pm_kd h v2 = 3 then (pm_R h v2 1).bind fun v5 => if pm_kd h v5 = 0 then pm_let ((pm_I h v2 4) + (pm_I h v5 3)) fun y8 => (pm_R h v5 0).bind fun v10 => (fX12_item h v10 1).bind fun v12 => pm_let ((pm_I h a0 3) - 1) fun y14 => pm_let (pm_I (pm_setI h a0 3 y14) v2 4) fun y16 => if (pm_I (pm_setI (pm_setI h a0 3 y14) a0 13 y16) a0 3) ≤ 0 then ((fX5_tell (pm_setI (pm_setI h a0 3 y14) a0 13 y16) a0 y8 v12).bind fun v19 => if pm_kd v19 a0 = 5 then (fX5_stop v19 a0 2).bind fun v22 => some v22 else none) else (if (pm_I (pm_setI (pm_setI h a0 3 y14) a0 13 y16) a0 3) ≤ 200 then ((pm_R (pm_setI (pm_setI h a0 3 y14) a0 13 y16) a0 11).bind fun v25 => pm_let ((pm_I (pm_setI (pm_setI h a0 3 y14) a0 13 y16) a0 3) - 1) fun y27 => if pm_kd (pm_setI (pm_setI h a0 3 y14) a0 13 y16) v25 = 39 then if pm_in y27 (pm_ln (pm_setI (pm_setI h a0 3 y14) a0 13 y16) v25) then (pm_R (pm_setI (pm_setI h a0 3 y14) a0 13 y16) v25 y27.toNatClampNeg).bind fun v31 => (pm_R (pm_setR (pm_setI (pm_setI h a0 3 y14) a0 13 y16) a0 12 (some v31)) a0 10).bind fun v33 => (pm_R (pm_setR (pm_setI (pm_setI h a0 3 y14) a0 13 y16) a0 12 (some v31)) a0 12).bind fun v35 => if pm_kd (pm_setR (pm_setI (pm_setI h a0 3 y14) a0 13 y16) a0 12 (some v31)) v35 = 3 then (fX12_move (pm_setR (pm_setI (pm_setI h a0 3 y14) a0 13 y16) a0 12 (some v31)) v33 y8 (pm_I (pm_setR (pm_setI (pm_setI h a0 3 y14) a0 13 y16) a0 12 (some v31)) v35 5) v12).bind fun v38 => if pm_kd v38 a0 = 5 then (pm_R v38 a0 12).bind fun v41 => if pm_kd v38 v41 = 3 then pm_let ((pm_I v38 v41 5) + v12) fun y44 => some (pm_setI v38 v41 5 y44) else none else none else none else none else none) else ((fX5_tell (pm_setI (pm_setI h a0 3 y14) a0 13 y16) a0 y8 v12).bind fun v46 => if pm_kd v46 a0 = 5 then (fX5_stop v46 a0 2).bind fun v49 => some v49 else none)) else none else none else none
set_option maxHeartbeats 4000000 in
set_option maxRecDepth 100000 in
theorem ctX5_leave {l : Launch} {G : pm_Gl} {h : pm_H} {a0 : Nat} {r : pm_H} {Qr : Option Value → pm_H → Prop} (hf : fX5_leave h a0 = some r) (q : Qr none r) : pm_Ct l G mX5_leave [.ref a0] h 0 0 Qr := by
  refine pm_body pnX5 (Nat.le_of_ble_eq_true rfl) (fun g C X => ?_)
  have C : pm_C g cX5_leave RX5 := C
  show pm_G g 0 [(0, .ref a0)] [] h 0 0
  unfold fX5_leave at hf
  refine pm_aload_n C dX5_leave_0 rfl rfl ?_
  obtain ⟨k1, hf⟩ := pm_if hf
  obtain ⟨v2, e3, hf⟩ := pm_bd hf
  refine pm_getR C dX5_leave_1 flX5_51 rfl k1 e3 ?_
  obtain ⟨k4, hf⟩ := pm_if hf
  refine pm_getI C dX5_leave_4 flX5_198 rfl k4 rfl ?_
  refine pm_aload_n C dX5_leave_7 rfl rfl ?_
  refine pm_getR C dX5_leave_8 flX5_51 rfl k1 e3 ?_
  obtain ⟨v5, e6, hf⟩ := pm_bd hf
  refine pm_getR C dX5_leave_11 flX5_148 rfl k4 e6 ?_
  obtain ⟨k7, hf⟩ := pm_if hf
  refine pm_getI C dX5_leave_14 flX5_184 rfl k7 rfl ?_
  refine pm_iadd C dX5_leave_17 ?_
  obtain ⟨y8, e9, hf⟩ := pm_lt hf
  refine pm_topI e9 ?_
  refine pm_istore_n (lv' := [(1, .int y8), (0, .ref a0)]) C dX5_leave_18 rfl (pm_nl X (by decide)) rfl ?_
  refine pm_aload_n C dX5_leave_19 rfl rfl ?_
  refine pm_getR C dX5_leave_20 flX5_51 rfl k1 e3 ?_
  refine pm_getR C dX5_leave_23 flX5_148 rfl k4 e6 ?_
  obtain ⟨v10, e11, hf⟩ := pm_bd hf
  refine pm_getR C dX5_leave_26 flX5_174 rfl k7 e11 ?_
  refine pm_iconst (v := 1) C dX5_leave_29 (by decide) ?_
  obtain ⟨v12, e13, hf⟩ := pm_bd hf
  refine pm_callS (as := [.ref v10, .int 1]) (st := []) C X dX5_leave_30 lnX5_88 myX12_item stX12_item ⟨by decide, by decide⟩ rfl rfl (Nat.le_of_ble_eq_true rfl) (Nat.le_refl _) (Nat.le_refl _) (ctX12_item e13 ?_)
  show pm_G g 33 [(1, .int y8), (0, .ref a0)] [.int v12] h 0 0
  refine pm_istore_n (lv' := [(2, .int v12), (1, .int y8), (0, .ref a0)]) C dX5_leave_33 rfl (pm_nl X (by decide)) rfl ?_
  refine pm_aload_n C dX5_leave_34 rfl rfl ?_
  refine pm_dup C dX5_leave_35 rfl ?_
  refine pm_getI C dX5_leave_36 flX5_59 rfl k1 rfl ?_
  refine pm_iconst (v := 1) C dX5_leave_39 (by decide) ?_
  refine pm_isub C dX5_leave_40 ?_
  obtain ⟨y14, e15, hf⟩ := pm_lt hf
  refine pm_topI e15 ?_
  refine pm_putI C dX5_leave_41 flX5_59 rfl rfl k1 rfl rfl ?_
  refine pm_aload_n C dX5_leave_44 rfl rfl ?_
  refine pm_aload_n C dX5_leave_45 rfl rfl ?_
  refine pm_getR C dX5_leave_46 flX5_51 rfl k1 e3 ?_
  refine pm_getI C dX5_leave_49 flX5_198 rfl k4 rfl ?_
  obtain ⟨y16, e17, hf⟩ := pm_lt hf
  refine pm_topI e17 ?_
  refine pm_putI C dX5_leave_52 flX5_62 rfl rfl k1 rfl rfl ?_
  refine pm_aload_n C dX5_leave_55 rfl rfl ?_
  refine pm_getI C dX5_leave_56 flX5_59 rfl k1 rfl ?_
  refine pm_if_le (tgt := 72) C dX5_leave_59 (by decide) (fun c18 => ?_) (fun c18 => ?_)
  · have hf := pm_it hf c18
    refine pm_aload_n C dX5_leave_72 rfl rfl ?_
    refine pm_iload_n C dX5_leave_73 rfl rfl ?_
    refine pm_iload_n C dX5_leave_74 rfl rfl ?_
    obtain ⟨v19, e20, hf⟩ := pm_bd hf
    refine pm_callV (as := [.int y8, .int v12]) (st := []) C X dX5_leave_75 lnX5_181 myX5_tell viX5_tell ⟨by decide, by decide⟩ rfl rfl k1 (Nat.le_of_ble_eq_true rfl) (Nat.le_refl _) (Nat.le_refl _) (ctX5_tell e20 ?_)
    show pm_G g 78 [(2, .int v12), (1, .int y8), (0, .ref a0)] [] v19 0 0
    refine pm_aload_n C dX5_leave_78 rfl rfl ?_
    refine pm_iconst (v := 2) C dX5_leave_79 (by decide) ?_
    obtain ⟨k21, hf⟩ := pm_if hf
    obtain ⟨v22, e23, hf⟩ := pm_bd hf
    refine pm_callV (as := [.int 2]) (st := []) C X dX5_leave_80 lnX5_74 myX5_stop viX5_stop ⟨by decide, by decide⟩ rfl rfl k21 (Nat.le_of_ble_eq_true rfl) (Nat.le_refl _) (Nat.le_refl _) (ctX5_stop e23 ?_)
    show pm_G g 83 [(2, .int v12), (1, .int y8), (0, .ref a0)] [] v22 0 0
    cases hf
    exact pm_vret C X dX5_leave_83 rfl (Nat.le_refl _) (Nat.le_refl _) q
  · have hf := pm_ie hf c18
    refine pm_aload_n C dX5_leave_62 rfl rfl ?_
    refine pm_getI C dX5_leave_63 flX5_59 rfl k1 rfl ?_
    refine pm_sipush (v := 200) C dX5_leave_66 (by decide) ?_
    refine pm_icmp_le (tgt := 84) C dX5_leave_69 (by decide) (fun c24 => ?_) (fun c24 => ?_)
    · have hf := pm_it hf c24
      refine pm_aload_n C dX5_leave_84 rfl rfl ?_
      refine pm_aload_n C dX5_leave_85 rfl rfl ?_
      obtain ⟨v25, e26, hf⟩ := pm_bd hf
      refine pm_getR C dX5_leave_86 flX5_20 rfl k1 e26 ?_
      refine pm_aload_n C dX5_leave_89 rfl rfl ?_
      refine pm_getI C dX5_leave_90 flX5_59 rfl k1 rfl ?_
      refine pm_iconst (v := 1) C dX5_leave_93 (by decide) ?_
      refine pm_isub C dX5_leave_94 ?_
      obtain ⟨y27, e28, hf⟩ := pm_lt hf
      refine pm_topI e28 ?_
      obtain ⟨k29, hf⟩ := pm_if hf
      obtain ⟨u30, hf⟩ := pm_if hf
      obtain ⟨v31, e32, hf⟩ := pm_bd hf
      refine pm_ald (t := 7) C dX5_leave_95 (by decide) rfl k29 u30 e32 ?_
      refine pm_putR C dX5_leave_96 flX5_51 rfl rfl k1 ?_
      refine pm_aload_n C dX5_leave_99 rfl rfl ?_
      obtain ⟨v33, e34, hf⟩ := pm_bd hf
      refine pm_getR C dX5_leave_100 flX5_15 rfl k1 e34 ?_
      refine pm_iload_n C dX5_leave_103 rfl rfl ?_
      refine pm_aload_n C dX5_leave_104 rfl rfl ?_
      obtain ⟨v35, e36, hf⟩ := pm_bd hf
      refine pm_getR C dX5_leave_105 flX5_51 rfl k1 e36 ?_
      obtain ⟨k37, hf⟩ := pm_if hf
      refine pm_getI C dX5_leave_108 flX5_118 rfl k37 rfl ?_
      refine pm_iload_n C dX5_leave_111 rfl rfl ?_
      obtain ⟨v38, e39, hf⟩ := pm_bd hf
      refine pm_callS (as := [.ref v33, .int y8, .int (pm_I (pm_setR (pm_setI (pm_setI h a0 3 y14) a0 13 y16) a0 12 (some v31)) v35 5), .int v12]) (st := []) C X dX5_leave_112 lnX5_208 myX12_move stX12_move ⟨by decide, by decide⟩ rfl rfl (Nat.le_of_ble_eq_true rfl) (Nat.le_refl _) (Nat.le_refl _) (ctX12_move e39 ?_)
      show pm_G g 115 [(2, .int v12), (1, .int y8), (0, .ref a0)] [] v38 0 0
      refine pm_aload_n C dX5_leave_115 rfl rfl ?_
      obtain ⟨k40, hf⟩ := pm_if hf
      obtain ⟨v41, e42, hf⟩ := pm_bd hf
      refine pm_getR C dX5_leave_116 flX5_51 rfl k40 e42 ?_
      refine pm_dup C dX5_leave_119 rfl ?_
      obtain ⟨k43, hf⟩ := pm_if hf
      refine pm_getI C dX5_leave_120 flX5_118 rfl k43 rfl ?_
      refine pm_iload_n C dX5_leave_123 rfl rfl ?_
      refine pm_iadd C dX5_leave_124 ?_
      obtain ⟨y44, e45, hf⟩ := pm_lt hf
      refine pm_topI e45 ?_
      refine pm_putI C dX5_leave_125 flX5_118 rfl rfl k43 rfl rfl ?_
      cases hf
      exact pm_vret C X dX5_leave_128 rfl (Nat.le_refl _) (Nat.le_refl _) q
    · have hf := pm_ie hf c24
      refine pm_aload_n C dX5_leave_72 rfl rfl ?_
      refine pm_iload_n C dX5_leave_73 rfl rfl ?_
      refine pm_iload_n C dX5_leave_74 rfl rfl ?_
      obtain ⟨v46, e47, hf⟩ := pm_bd hf
      refine pm_callV (as := [.int y8, .int v12]) (st := []) C X dX5_leave_75 lnX5_181 myX5_tell viX5_tell ⟨by decide, by decide⟩ rfl rfl k1 (Nat.le_of_ble_eq_true rfl) (Nat.le_refl _) (Nat.le_refl _) (ctX5_tell e47 ?_)
      show pm_G g 78 [(2, .int v12), (1, .int y8), (0, .ref a0)] [] v46 0 0
      refine pm_aload_n C dX5_leave_78 rfl rfl ?_
      refine pm_iconst (v := 2) C dX5_leave_79 (by decide) ?_
      obtain ⟨k48, hf⟩ := pm_if hf
      obtain ⟨v49, e50, hf⟩ := pm_bd hf
      refine pm_callV (as := [.int 2]) (st := []) C X dX5_leave_80 lnX5_74 myX5_stop viX5_stop ⟨by decide, by decide⟩ rfl rfl k48 (Nat.le_of_ble_eq_true rfl) (Nat.le_refl _) (Nat.le_refl _) (ctX5_stop e50 ?_)
      show pm_G g 83 [(2, .int v12), (1, .int y8), (0, .ref a0)] [] v49 0 0
      cases hf
      exact pm_vret C X dX5_leave_83 rfl (Nat.le_refl _) (Nat.le_refl _) q
theorem dX6_fill_0 : decode cX6_fill 0 = .ok (.lconst 0, 1) := by decide +kernel
theorem dX6_fill_1 : decode cX6_fill 1 = .ok (.lstore 7, 2) := by decide +kernel
theorem dX6_fill_3 : decode cX6_fill 3 = .ok (.iconst 0, 1) := by decide +kernel
theorem dX6_fill_4 : decode cX6_fill 4 = .ok (.istore 9, 2) := by decide +kernel
theorem dX6_fill_6 : decode cX6_fill 6 = .ok (.iload 9, 2) := by decide +kernel
theorem dX6_fill_8 : decode cX6_fill 8 = .ok (.bipush 16, 2) := by decide +kernel
theorem dX6_fill_10 : decode cX6_fill 10 = .ok (.if_icmp .ge 90, 3) := by decide +kernel
theorem dX6_fill_13 : decode cX6_fill 13 = .ok (.lload 7, 2) := by decide +kernel
theorem dX6_fill_15 : decode cX6_fill 15 = .ok (.lload 5, 2) := by decide +kernel
theorem dX6_fill_17 : decode cX6_fill 17 = .ok (.lcmp, 1) := by decide +kernel
theorem dX6_fill_18 : decode cX6_fill 18 = .ok (.ifCond .ge 82, 3) := by decide +kernel
theorem dX6_fill_21 : decode cX6_fill 21 = .ok (.lload 5, 2) := by decide +kernel
theorem dX6_fill_23 : decode cX6_fill 23 = .ok (.lload 7, 2) := by decide +kernel
theorem dX6_fill_25 : decode cX6_fill 25 = .ok (.lsub, 1) := by decide +kernel
theorem dX6_fill_26 : decode cX6_fill 26 = .ok (.aload_n 0, 1) := by decide +kernel
theorem dX6_fill_27 : decode cX6_fill 27 = .ok (.iload_n 1, 1) := by decide +kernel
theorem dX6_fill_28 : decode cX6_fill 28 = .ok (.lload_n 2, 1) := by decide +kernel
theorem dX6_fill_29 : decode cX6_fill 29 = .ok (.lload 7, 2) := by decide +kernel
theorem dX6_fill_31 : decode cX6_fill 31 = .ok (.ladd, 1) := by decide +kernel
theorem dX6_fill_32 : decode cX6_fill 32 = .ok (.invokevirtual 82, 3) := by decide +kernel
theorem dX6_fill_35 : decode cX6_fill 35 = .ok (.i2l, 1) := by decide +kernel
theorem dX6_fill_36 : decode cX6_fill 36 = .ok (.invokestatic 85, 3) := by decide +kernel
theorem dX6_fill_39 : decode cX6_fill 39 = .ok (.l2i, 1) := by decide +kernel
theorem dX6_fill_40 : decode cX6_fill 40 = .ok (.istore 10, 2) := by decide +kernel
theorem dX6_fill_42 : decode cX6_fill 42 = .ok (.iload 10, 2) := by decide +kernel
theorem dX6_fill_44 : decode cX6_fill 44 = .ok (.ifCond .gt 4, 3) := by decide +kernel
theorem dX6_fill_47 : decode cX6_fill 47 = .ok (.return_, 1) := by decide +kernel
theorem dX6_fill_48 : decode cX6_fill 48 = .ok (.lload_n 2, 1) := by decide +kernel
theorem dX6_fill_49 : decode cX6_fill 49 = .ok (.lload 7, 2) := by decide +kernel
theorem dX6_fill_51 : decode cX6_fill 51 = .ok (.ladd, 1) := by decide +kernel
theorem dX6_fill_52 : decode cX6_fill 52 = .ok (.ldc2_w 65, 3) := by decide +kernel
theorem dX6_fill_55 : decode cX6_fill 55 = .ok (.land, 1) := by decide +kernel
theorem dX6_fill_56 : decode cX6_fill 56 = .ok (.l2i, 1) := by decide +kernel
theorem dX6_fill_57 : decode cX6_fill 57 = .ok (.istore 11, 2) := by decide +kernel
theorem dX6_fill_59 : decode cX6_fill 59 = .ok (.aload_n 0, 1) := by decide +kernel
theorem dX6_fill_60 : decode cX6_fill 60 = .ok (.getfield 25, 3) := by decide +kernel
theorem dX6_fill_63 : decode cX6_fill 63 = .ok (.aload_n 0, 1) := by decide +kernel
theorem dX6_fill_64 : decode cX6_fill 64 = .ok (.iload_n 1, 1) := by decide +kernel
theorem dX6_fill_65 : decode cX6_fill 65 = .ok (.lload_n 2, 1) := by decide +kernel
theorem dX6_fill_66 : decode cX6_fill 66 = .ok (.lload 7, 2) := by decide +kernel
theorem dX6_fill_68 : decode cX6_fill 68 = .ok (.ladd, 1) := by decide +kernel
theorem dX6_fill_69 : decode cX6_fill 69 = .ok (.invokevirtual 62, 3) := by decide +kernel
theorem dX6_fill_72 : decode cX6_fill 72 = .ok (.aaload, 1) := by decide +kernel
theorem dX6_fill_73 : decode cX6_fill 73 = .ok (.iload 11, 2) := by decide +kernel
theorem dX6_fill_75 : decode cX6_fill 75 = .ok (.iload 11, 2) := by decide +kernel
theorem dX6_fill_77 : decode cX6_fill 77 = .ok (.iload 10, 2) := by decide +kernel
theorem dX6_fill_79 : decode cX6_fill 79 = .ok (.iadd, 1) := by decide +kernel
theorem dX6_fill_80 : decode cX6_fill 80 = .ok (.iload 4, 2) := by decide +kernel
theorem dX6_fill_82 : decode cX6_fill 82 = .ok (.i2b, 1) := by decide +kernel
theorem dX6_fill_83 : decode cX6_fill 83 = .ok (.invokestatic 91, 3) := by decide +kernel
theorem dX6_fill_86 : decode cX6_fill 86 = .ok (.lload 7, 2) := by decide +kernel
theorem dX6_fill_88 : decode cX6_fill 88 = .ok (.iload 10, 2) := by decide +kernel
theorem dX6_fill_90 : decode cX6_fill 90 = .ok (.i2l, 1) := by decide +kernel
theorem dX6_fill_91 : decode cX6_fill 91 = .ok (.ladd, 1) := by decide +kernel
theorem dX6_fill_92 : decode cX6_fill 92 = .ok (.lstore 7, 2) := by decide +kernel
theorem dX6_fill_94 : decode cX6_fill 94 = .ok (.iinc 9 1, 3) := by decide +kernel
theorem dX6_fill_97 : decode cX6_fill 97 = .ok (.goto (-91), 3) := by decide +kernel
theorem dX6_fill_100 : decode cX6_fill 100 = .ok (.return_, 1) := by decide +kernel
noncomputable def tX6_fill_6 (x0 : Nat) (x1 : Int32) (x2 : Int64) (x4 : Int32) (x5 : Int64) (x7 : Int64) (x9 : Int32) (h : pm_H) : Option (((Nat × Int32 × Int64 × Int32 × Int64 × Int64 × Int32 × pm_H)) ⊕ pm_H) := if 16 ≤ x9 then (some (.inr (h))) else (if x5 ≤ x7 then (some (.inr (h))) else (if pm_kd h x0 = 6 then (fX6_leftOfPage h x0 x1 (x2 + x7)).bind fun v4 => pm_let (((if v4.toInt64 < (x5 - x7) then v4.toInt64 else (x5 - x7))).toInt32) fun y6 => if 0 < y6 then (pm_let (((x2 + x7) &&& 65535).toInt32) fun y9 => (pm_R h x0 4).bind fun v11 => (fX6_pageOf h x0 x1 (x2 + x7)).bind fun v13 => if pm_kd h v11 = 37 then if pm_in v13 (pm_ln h v11) then (pm_R h v11 v13.toNatClampNeg).bind fun v17 => (fJ7_fill_eb02e h v17 y9 (y9 + y6) x4.toInt8.toInt32).bind fun v19 => pm_let (x7 + y6.toInt64) fun y21 => pm_let (x9 + 1) fun y23 => some (.inl ((x0, x1, x2, x4, x5, y21, y23, v19))) else none else none) else (some (.inr (h))) else none))
noncomputable def sX6_fill : ((Nat × Int32 × Int64 × Int32 × Int64 × Int64 × Int32 × pm_H)) → Option (((Nat × Int32 × Int64 × Int32 × Int64 × Int64 × Int32 × pm_H)) ⊕ pm_H) := fun z => match z with
  | (x0, x1, x2, x4, x5, x7, x9, h) => tX6_fill_6 x0 x1 x2 x4 x5 x7 x9 h
noncomputable def fX6_fill (h : pm_H) (a0 : Nat) (p1 : Int32) (p2 : Int64) (p3 : Int32) (p4 : Int64) : Option pm_H := pm_lim sX6_fill ((a0, p1, p2, p3, p4, 0, 0, h))
set_option maxHeartbeats 4000000 in
set_option maxRecDepth 100000 in
theorem lpX6_fill {g : pm_Gm} {l : Launch} {G : pm_Gl} {Qr : Option Value → pm_H → Prop} (C : pm_C g cX6_fill RX6) (X : pm_X g l G mX6_fill 0 0 Qr) {r : pm_H} (q : Qr none r) : ∀ n : Nat, (∀ (x0 : Nat) (x1 : Int32) (x2 : Int64) (x4 : Int32) (x5 : Int64) (x7 : Int64) (x9 : Int32) (h : pm_H), pm_iter sX6_fill n (x0, x1, x2, x4, x5, x7, x9, h) = some r → pm_G g 6 [(0, .ref x0), (1, .int x1), (2, .long x2), (4, .int x4), (5, .long x5), (7, .long x7), (9, .int x9)] [] h 0 0) := by
  intro n
  induction n with
  | zero => exact fun _ _ _ _ _ _ _ _ hf => (by cases hf)
  | succ n ih =>
    refine fun x0 x1 x2 x4 x5 x7 x9 h hf => ?_
    obtain ⟨y, hf, hi⟩ := pm_iter_s hf
    have hf : tX6_fill_6 x0 x1 x2 x4 x5 x7 x9 h = some y := hf
    unfold tX6_fill_6 at hf
    refine pm_iload C dX6_fill_6 rfl ?_
    refine pm_bipush (v := 16) C dX6_fill_8 (by decide) ?_
    refine pm_icmp_ge (tgt := 100) C dX6_fill_10 (by decide) (fun c1 => ?_) (fun c1 => ?_)
    · have hf := pm_it hf c1
      cases hf
      cases hi
      exact pm_vret C X dX6_fill_100 rfl (Nat.le_refl _) (Nat.le_refl _) q
    · have hf := pm_ie hf c1
      refine pm_lload C dX6_fill_13 rfl ?_
      refine pm_lload C dX6_fill_15 rfl ?_
      refine pm_lcmp C dX6_fill_17 ?_
      refine pm_if_ge (tgt := 100) C dX6_fill_18 (by decide) (fun c2 => ?_) (fun c2 => ?_)
      · have hf := pm_it hf ((pm_lg_ge _ _).mp c2)
        cases hf
        cases hi
        exact pm_vret C X dX6_fill_100 rfl (Nat.le_refl _) (Nat.le_refl _) q
      · have hf := pm_ie hf ((fun z => c2 ((pm_lg_ge _ _).mpr z)))
        refine pm_lload C dX6_fill_21 rfl ?_
        refine pm_lload C dX6_fill_23 rfl ?_
        refine pm_lsub C dX6_fill_25 ?_
        refine pm_aload_n C dX6_fill_26 rfl rfl ?_
        refine pm_iload_n C dX6_fill_27 rfl rfl ?_
        refine pm_lload_n C dX6_fill_28 rfl rfl ?_
        refine pm_lload C dX6_fill_29 rfl ?_
        refine pm_ladd C dX6_fill_31 ?_
        obtain ⟨k3, hf⟩ := pm_if hf
        obtain ⟨v4, e5, hf⟩ := pm_bd hf
        refine pm_callV (as := [.int x1, .long (x2 + x7)]) (st := [.long (x5 - x7)]) C X dX6_fill_32 lnX6_82 myX6_leftOfPage viX6_leftOfPage ⟨by decide, by decide⟩ rfl rfl k3 (Nat.le_of_ble_eq_true rfl) (Nat.le_refl _) (Nat.le_refl _) (ctX6_leftOfPage e5 ?_)
        show pm_G g 35 [(0, .ref x0), (1, .int x1), (2, .long x2), (4, .int x4), (5, .long x5), (7, .long x7), (9, .int x9)] [.int v4, .long (x5 - x7)] h 0 0
        refine pm_i2l C dX6_fill_35 ?_
        refine pm_mminJ C (pm_XR X) dX6_fill_36 mtX6_85 (by decide) (by decide) (Nat.le_of_ble_eq_true rfl) (Nat.zero_le _) (Nat.zero_le _) ?_
        refine pm_l2i C dX6_fill_39 ?_
        obtain ⟨y6, e7, hf⟩ := pm_lt hf
        refine pm_topI e7 ?_
        refine pm_istore (lv' := [(10, .int y6), (0, .ref x0), (1, .int x1), (2, .long x2), (4, .int x4), (5, .long x5), (7, .long x7), (9, .int x9)]) C dX6_fill_40 (pm_nl X (by decide)) rfl ?_
        refine pm_iload C dX6_fill_42 rfl ?_
        refine pm_if_gt (tgt := 48) C dX6_fill_44 (by decide) (fun c8 => ?_) (fun c8 => ?_)
        · have hf := pm_it hf c8
          refine pm_lload_n C dX6_fill_48 rfl rfl ?_
          refine pm_lload C dX6_fill_49 rfl ?_
          refine pm_ladd C dX6_fill_51 ?_
          refine pm_ldc2 C dX6_fill_52 cnX6_65 ?_
          refine pm_land C dX6_fill_55 ?_
          refine pm_l2i C dX6_fill_56 ?_
          obtain ⟨y9, e10, hf⟩ := pm_lt hf
          refine pm_topI e10 ?_
          refine pm_istore (lv' := [(11, .int y9), (10, .int y6), (0, .ref x0), (1, .int x1), (2, .long x2), (4, .int x4), (5, .long x5), (7, .long x7), (9, .int x9)]) C dX6_fill_57 (pm_nl X (by decide)) rfl ?_
          refine pm_aload_n C dX6_fill_59 rfl rfl ?_
          obtain ⟨v11, e12, hf⟩ := pm_bd hf
          refine pm_getR C dX6_fill_60 flX6_25 rfl k3 e12 ?_
          refine pm_aload_n C dX6_fill_63 rfl rfl ?_
          refine pm_iload_n C dX6_fill_64 rfl rfl ?_
          refine pm_lload_n C dX6_fill_65 rfl rfl ?_
          refine pm_lload C dX6_fill_66 rfl ?_
          refine pm_ladd C dX6_fill_68 ?_
          obtain ⟨v13, e14, hf⟩ := pm_bd hf
          refine pm_callV (as := [.int x1, .long (x2 + x7)]) (st := [.ref v11]) C X dX6_fill_69 lnX6_62 myX6_pageOf viX6_pageOf ⟨by decide, by decide⟩ rfl rfl k3 (Nat.le_of_ble_eq_true rfl) (Nat.le_refl _) (Nat.le_refl _) (ctX6_pageOf e14 ?_)
          show pm_G g 72 [(11, .int y9), (10, .int y6), (0, .ref x0), (1, .int x1), (2, .long x2), (4, .int x4), (5, .long x5), (7, .long x7), (9, .int x9)] [.int v13, .ref v11] h 0 0
          obtain ⟨k15, hf⟩ := pm_if hf
          obtain ⟨u16, hf⟩ := pm_if hf
          obtain ⟨v17, e18, hf⟩ := pm_bd hf
          refine pm_ald (t := 5) C dX6_fill_72 (by decide) rfl k15 u16 e18 ?_
          refine pm_iload C dX6_fill_73 rfl ?_
          refine pm_iload C dX6_fill_75 rfl ?_
          refine pm_iload C dX6_fill_77 rfl ?_
          refine pm_iadd C dX6_fill_79 ?_
          refine pm_iload C dX6_fill_80 rfl ?_
          refine pm_i2b C dX6_fill_82 ?_
          obtain ⟨v19, e20, hf⟩ := pm_bd hf
          refine pm_callS (as := [.ref v17, .int y9, .int (y9 + y6), .int x4.toInt8.toInt32]) (st := []) C X dX6_fill_83 lnX6_91 myJ7_fill_eb02e stJ7_fill_eb02e ⟨by decide, by decide⟩ rfl rfl (Nat.le_of_ble_eq_true rfl) (Nat.le_refl _) (Nat.le_refl _) (ctJ7_fill_eb02e e20 ?_)
          show pm_G g 86 [(11, .int y9), (10, .int y6), (0, .ref x0), (1, .int x1), (2, .long x2), (4, .int x4), (5, .long x5), (7, .long x7), (9, .int x9)] [] v19 0 0
          refine pm_lload C dX6_fill_86 rfl ?_
          refine pm_iload C dX6_fill_88 rfl ?_
          refine pm_i2l C dX6_fill_90 ?_
          refine pm_ladd C dX6_fill_91 ?_
          obtain ⟨y21, e22, hf⟩ := pm_lt hf
          refine pm_topL e22 ?_
          refine pm_lstore (lv' := [(7, .long y21), (11, .int y9), (10, .int y6), (0, .ref x0), (1, .int x1), (2, .long x2), (4, .int x4), (5, .long x5), (9, .int x9)]) C dX6_fill_92 (pm_nl X (by decide)) rfl ?_
          obtain ⟨y23, e24, hf⟩ := pm_lt hf
          refine pm_iinc (v := y23) (lv' := [(9, .int y23), (7, .long y21), (11, .int y9), (10, .int y6), (0, .ref x0), (1, .int x1), (2, .long x2), (4, .int x4), (5, .long x5)]) C dX6_fill_94 rfl ((congrArg (x9 + ·) (by decide : Int32.ofInt 1 = 1)).trans e24) (pm_nl X (by decide)) rfl ?_
          refine pm_goto (tgt := 6) C dX6_fill_97 (by decide) ?_
          cases hf
          exact pm_sub [4, 5, 6, 7, 8, 1, 0] rfl (ih x0 x1 x2 x4 x5 y21 y23 v19 hi)
        · have hf := pm_ie hf c8
          cases hf
          cases hi
          exact pm_vret C X dX6_fill_47 rfl (Nat.le_refl _) (Nat.le_refl _) q
set_option maxHeartbeats 4000000 in
set_option maxRecDepth 100000 in
theorem ctX6_fill {l : Launch} {G : pm_Gl} {h : pm_H} {a0 : Nat} {p1 : Int32} {p2 : Int64} {p3 : Int32} {p4 : Int64} {r : pm_H} {Qr : Option Value → pm_H → Prop} (hf : fX6_fill h a0 p1 p2 p3 p4 = some r) (q : Qr none r) : pm_Ct l G mX6_fill [.ref a0, .int p1, .long p2, .int p3, .long p4] h 0 0 Qr := by
  refine pm_body pnX6 (Nat.le_of_ble_eq_true rfl) (fun g C X => ?_)
  have C : pm_C g cX6_fill RX6 := C
  show pm_G g 0 [(0, .ref a0), (1, .int p1), (2, .long p2), (4, .int p3), (5, .long p4)] [] h 0 0
  unfold fX6_fill at hf
  refine pm_lconst (v := 0) C dX6_fill_0 (by decide) ?_
  refine pm_lstore (lv' := [(7, .long 0), (0, .ref a0), (1, .int p1), (2, .long p2), (4, .int p3), (5, .long p4)]) C dX6_fill_1 (pm_nl X (by decide)) rfl ?_
  refine pm_iconst (v := 0) C dX6_fill_3 (by decide) ?_
  refine pm_istore (lv' := [(9, .int 0), (7, .long 0), (0, .ref a0), (1, .int p1), (2, .long p2), (4, .int p3), (5, .long p4)]) C dX6_fill_4 (pm_nl X (by decide)) rfl ?_
  obtain ⟨n, hn⟩ := pm_lim_iter hf
  exact pm_sub [2, 3, 4, 5, 6, 1, 0] rfl ((lpX6_fill C X q n) a0 p1 p2 p3 p4 0 0 h hn)
