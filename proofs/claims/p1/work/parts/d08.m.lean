theorem dX1_body_0 : decode cX1_body 0 = .ok (.iload_n 1, 1) := by decide +kernel
theorem dX1_body_1 : decode cX1_body 1 = .ok (.ifCond .lt 15, 3) := by decide +kernel
theorem dX1_body_4 : decode cX1_body 4 = .ok (.iload_n 1, 1) := by decide +kernel
theorem dX1_body_5 : decode cX1_body 5 = .ok (.aload_n 0, 1) := by decide +kernel
theorem dX1_body_6 : decode cX1_body 6 = .ok (.getfield 40, 3) := by decide +kernel
theorem dX1_body_9 : decode cX1_body 9 = .ok (.getfield 207, 3) := by decide +kernel
theorem dX1_body_12 : decode cX1_body 12 = .ok (.arraylength, 1) := by decide +kernel
theorem dX1_body_13 : decode cX1_body 13 = .ok (.if_icmp .lt 4, 3) := by decide +kernel
theorem dX1_body_16 : decode cX1_body 16 = .ok (.return_, 1) := by decide +kernel
theorem dX1_body_17 : decode cX1_body 17 = .ok (.aload_n 0, 1) := by decide +kernel
theorem dX1_body_18 : decode cX1_body 18 = .ok (.aload_n 0, 1) := by decide +kernel
theorem dX1_body_19 : decode cX1_body 19 = .ok (.getfield 40, 3) := by decide +kernel
theorem dX1_body_22 : decode cX1_body 22 = .ok (.getfield 207, 3) := by decide +kernel
theorem dX1_body_25 : decode cX1_body 25 = .ok (.iload_n 1, 1) := by decide +kernel
theorem dX1_body_26 : decode cX1_body 26 = .ok (.aaload, 1) := by decide +kernel
theorem dX1_body_27 : decode cX1_body 27 = .ok (.putfield 49, 3) := by decide +kernel
theorem dX1_body_30 : decode cX1_body 30 = .ok (.aload_n 0, 1) := by decide +kernel
theorem dX1_body_31 : decode cX1_body 31 = .ok (.getfield 36, 3) := by decide +kernel
theorem dX1_body_34 : decode cX1_body 34 = .ok (.aload_n 0, 1) := by decide +kernel
theorem dX1_body_35 : decode cX1_body 35 = .ok (.getfield 40, 3) := by decide +kernel
theorem dX1_body_38 : decode cX1_body 38 = .ok (.aload_n 0, 1) := by decide +kernel
theorem dX1_body_39 : decode cX1_body 39 = .ok (.getfield 40, 3) := by decide +kernel
theorem dX1_body_42 : decode cX1_body 42 = .ok (.getfield 204, 3) := by decide +kernel
theorem dX1_body_45 : decode cX1_body 45 = .ok (.iconst 2, 1) := by decide +kernel
theorem dX1_body_46 : decode cX1_body 46 = .ok (.iload_n 1, 1) := by decide +kernel
theorem dX1_body_47 : decode cX1_body 47 = .ok (.imul, 1) := by decide +kernel
theorem dX1_body_48 : decode cX1_body 48 = .ok (.invokestatic 105, 3) := by decide +kernel
theorem dX1_body_51 : decode cX1_body 51 = .ok (.invokevirtual 170, 3) := by decide +kernel
theorem dX1_body_54 : decode cX1_body 54 = .ok (.aload_n 0, 1) := by decide +kernel
theorem dX1_body_55 : decode cX1_body 55 = .ok (.invokevirtual 211, 3) := by decide +kernel
theorem dX1_body_58 : decode cX1_body 58 = .ok (.aload_n 0, 1) := by decide +kernel
theorem dX1_body_59 : decode cX1_body 59 = .ok (.iconst 0, 1) := by decide +kernel
theorem dX1_body_60 : decode cX1_body 60 = .ok (.putfield 214, 3) := by decide +kernel
theorem dX1_body_63 : decode cX1_body 63 = .ok (.aload_n 0, 1) := by decide +kernel
theorem dX1_body_64 : decode cX1_body 64 = .ok (.iconst 0, 1) := by decide +kernel
theorem dX1_body_65 : decode cX1_body 65 = .ok (.putfield 217, 3) := by decide +kernel
theorem dX1_body_68 : decode cX1_body 68 = .ok (.aload_n 0, 1) := by decide +kernel
theorem dX1_body_69 : decode cX1_body 69 = .ok (.iconst 0, 1) := by decide +kernel
theorem dX1_body_70 : decode cX1_body 70 = .ok (.putfield 220, 3) := by decide +kernel
theorem dX1_body_73 : decode cX1_body 73 = .ok (.aload_n 0, 1) := by decide +kernel
theorem dX1_body_74 : decode cX1_body 74 = .ok (.iconst 0, 1) := by decide +kernel
theorem dX1_body_75 : decode cX1_body 75 = .ok (.aload_n 0, 1) := by decide +kernel
theorem dX1_body_76 : decode cX1_body 76 = .ok (.getfield 40, 3) := by decide +kernel
theorem dX1_body_79 : decode cX1_body 79 = .ok (.iconst 0, 1) := by decide +kernel
theorem dX1_body_80 : decode cX1_body 80 = .ok (.aload_n 0, 1) := by decide +kernel
theorem dX1_body_81 : decode cX1_body 81 = .ok (.getfield 40, 3) := by decide +kernel
theorem dX1_body_84 : decode cX1_body 84 = .ok (.iconst 0, 1) := by decide +kernel
theorem dX1_body_85 : decode cX1_body 85 = .ok (.invokevirtual 130, 3) := by decide +kernel
theorem dX1_body_88 : decode cX1_body 88 = .ok (.iload_n 1, 1) := by decide +kernel
theorem dX1_body_89 : decode cX1_body 89 = .ok (.iadd, 1) := by decide +kernel
theorem dX1_body_90 : decode cX1_body 90 = .ok (.iconst 1, 1) := by decide +kernel
theorem dX1_body_91 : decode cX1_body 91 = .ok (.invokevirtual 122, 3) := by decide +kernel
theorem dX1_body_94 : decode cX1_body 94 = .ok (.l2i, 1) := by decide +kernel
theorem dX1_body_95 : decode cX1_body 95 = .ok (.iconst 1, 1) := by decide +kernel
theorem dX1_body_96 : decode cX1_body 96 = .ok (.iconst (-1), 1) := by decide +kernel
theorem dX1_body_97 : decode cX1_body 97 = .ok (.invokevirtual 223, 3) := by decide +kernel
theorem dX1_body_100 : decode cX1_body 100 = .ok (.iconst 0, 1) := by decide +kernel
theorem dX1_body_101 : decode cX1_body 101 = .ok (.istore_n 2, 1) := by decide +kernel
theorem dX1_body_102 : decode cX1_body 102 = .ok (.iload_n 2, 1) := by decide +kernel
theorem dX1_body_103 : decode cX1_body 103 = .ok (.aload_n 0, 1) := by decide +kernel
theorem dX1_body_104 : decode cX1_body 104 = .ok (.getfield 40, 3) := by decide +kernel
theorem dX1_body_107 : decode cX1_body 107 = .ok (.getfield 158, 3) := by decide +kernel
theorem dX1_body_110 : decode cX1_body 110 = .ok (.arraylength, 1) := by decide +kernel
theorem dX1_body_111 : decode cX1_body 111 = .ok (.if_icmp .ge 97, 3) := by decide +kernel
theorem dX1_body_114 : decode cX1_body 114 = .ok (.aload_n 0, 1) := by decide +kernel
theorem dX1_body_115 : decode cX1_body 115 = .ok (.getfield 220, 3) := by decide +kernel
theorem dX1_body_118 : decode cX1_body 118 = .ok (.ifCond .le 90, 3) := by decide +kernel
theorem dX1_body_121 : decode cX1_body 121 = .ok (.aload_n 0, 1) := by decide +kernel
theorem dX1_body_122 : decode cX1_body 122 = .ok (.getfield 53, 3) := by decide +kernel
theorem dX1_body_125 : decode cX1_body 125 = .ok (.ifCond .ne 83, 3) := by decide +kernel
theorem dX1_body_128 : decode cX1_body 128 = .ok (.aload_n 0, 1) := by decide +kernel
theorem dX1_body_129 : decode cX1_body 129 = .ok (.getfield 36, 3) := by decide +kernel
theorem dX1_body_132 : decode cX1_body 132 = .ok (.invokevirtual 188, 3) := by decide +kernel
theorem dX1_body_135 : decode cX1_body 135 = .ok (.aload_n 0, 1) := by decide +kernel
theorem dX1_body_136 : decode cX1_body 136 = .ok (.aload_n 0, 1) := by decide +kernel
theorem dX1_body_137 : decode cX1_body 137 = .ok (.getfield 214, 3) := by decide +kernel
theorem dX1_body_140 : decode cX1_body 140 = .ok (.putfield 227, 3) := by decide +kernel
theorem dX1_body_143 : decode cX1_body 143 = .ok (.aload_n 0, 1) := by decide +kernel
theorem dX1_body_144 : decode cX1_body 144 = .ok (.getfield 36, 3) := by decide +kernel
theorem dX1_body_147 : decode cX1_body 147 = .ok (.getfield 191, 3) := by decide +kernel
theorem dX1_body_150 : decode cX1_body 150 = .ok (.bipush 17, 2) := by decide +kernel
theorem dX1_body_152 : decode cX1_body 152 = .ok (.if_icmp .gt 17, 3) := by decide +kernel
theorem dX1_body_155 : decode cX1_body 155 = .ok (.aload_n 0, 1) := by decide +kernel
theorem dX1_body_156 : decode cX1_body 156 = .ok (.aload_n 0, 1) := by decide +kernel
theorem dX1_body_157 : decode cX1_body 157 = .ok (.getfield 36, 3) := by decide +kernel
theorem dX1_body_160 : decode cX1_body 160 = .ok (.getfield 191, 3) := by decide +kernel
theorem dX1_body_163 : decode cX1_body 163 = .ok (.invokevirtual 230, 3) := by decide +kernel
theorem dX1_body_166 : decode cX1_body 166 = .ok (.goto 14, 3) := by decide +kernel
theorem dX1_body_169 : decode cX1_body 169 = .ok (.aload_n 0, 1) := by decide +kernel
theorem dX1_body_170 : decode cX1_body 170 = .ok (.aload_n 0, 1) := by decide +kernel
theorem dX1_body_171 : decode cX1_body 171 = .ok (.getfield 36, 3) := by decide +kernel
theorem dX1_body_174 : decode cX1_body 174 = .ok (.getfield 191, 3) := by decide +kernel
theorem dX1_body_177 : decode cX1_body 177 = .ok (.invokevirtual 233, 3) := by decide +kernel
theorem dX1_body_180 : decode cX1_body 180 = .ok (.aload_n 0, 1) := by decide +kernel
theorem dX1_body_181 : decode cX1_body 181 = .ok (.getfield 220, 3) := by decide +kernel
theorem dX1_body_184 : decode cX1_body 184 = .ok (.ifCond .le 18, 3) := by decide +kernel
theorem dX1_body_187 : decode cX1_body 187 = .ok (.aload_n 0, 1) := by decide +kernel
theorem dX1_body_188 : decode cX1_body 188 = .ok (.aload_n 0, 1) := by decide +kernel
theorem dX1_body_189 : decode cX1_body 189 = .ok (.getfield 217, 3) := by decide +kernel
theorem dX1_body_192 : decode cX1_body 192 = .ok (.aload_n 0, 1) := by decide +kernel
theorem dX1_body_193 : decode cX1_body 193 = .ok (.getfield 214, 3) := by decide +kernel
theorem dX1_body_196 : decode cX1_body 196 = .ok (.invokestatic 236, 3) := by decide +kernel
theorem dX1_body_199 : decode cX1_body 199 = .ok (.putfield 217, 3) := by decide +kernel
theorem dX1_body_202 : decode cX1_body 202 = .ok (.iinc 2 1, 3) := by decide +kernel
theorem dX1_body_205 : decode cX1_body 205 = .ok (.goto (-103), 3) := by decide +kernel
theorem dX1_body_208 : decode cX1_body 208 = .ok (.aload_n 0, 1) := by decide +kernel
theorem dX1_body_209 : decode cX1_body 209 = .ok (.getfield 49, 3) := by decide +kernel
theorem dX1_body_212 : decode cX1_body 212 = .ok (.aload_n 0, 1) := by decide +kernel
theorem dX1_body_213 : decode cX1_body 213 = .ok (.getfield 242, 3) := by decide +kernel
theorem dX1_body_216 : decode cX1_body 216 = .ok (.putfield 245, 3) := by decide +kernel
theorem dX1_body_219 : decode cX1_body 219 = .ok (.aload_n 0, 1) := by decide +kernel
theorem dX1_body_220 : decode cX1_body 220 = .ok (.getfield 49, 3) := by decide +kernel
theorem dX1_body_223 : decode cX1_body 223 = .ok (.aload_n 0, 1) := by decide +kernel
theorem dX1_body_224 : decode cX1_body 224 = .ok (.getfield 217, 3) := by decide +kernel
theorem dX1_body_227 : decode cX1_body 227 = .ok (.putfield 248, 3) := by decide +kernel
theorem dX1_body_230 : decode cX1_body 230 = .ok (.aload_n 0, 1) := by decide +kernel
theorem dX1_body_231 : decode cX1_body 231 = .ok (.getfield 49, 3) := by decide +kernel
theorem dX1_body_234 : decode cX1_body 234 = .ok (.aload_n 0, 1) := by decide +kernel
theorem dX1_body_235 : decode cX1_body 235 = .ok (.getfield 25, 3) := by decide +kernel
theorem dX1_body_238 : decode cX1_body 238 = .ok (.aload_n 0, 1) := by decide +kernel
theorem dX1_body_239 : decode cX1_body 239 = .ok (.getfield 251, 3) := by decide +kernel
theorem dX1_body_242 : decode cX1_body 242 = .ok (.invokestatic 254, 3) := by decide +kernel
theorem dX1_body_245 : decode cX1_body 245 = .ok (.putfield 260, 3) := by decide +kernel
theorem dX1_body_248 : decode cX1_body 248 = .ok (.return_, 1) := by decide +kernel
noncomputable def tX1_body_0 (x0 : Nat) (x1 : Int32) (h : pm_H) : Option (((Nat × Int32 × pm_H) ⊕ (Nat × Int32 × pm_H) ⊕ (Nat × pm_H) ⊕ (Nat × Int32 × pm_H) ⊕ (Nat × Int32 × pm_H) ⊕ (Nat × Nat × pm_H)) ⊕ pm_H) := if x1 < 0 then (some (.inr (h))) else (if pm_kd h x0 = 1 then (pm_R h x0 2).bind fun v3 => if pm_kd h v3 = 7 then (pm_R h v3 12).bind fun v6 => if pm_kd h v6 = 38 then if x1 < (Int32.ofNat (pm_ln h v6)) then (if pm_in x1 (pm_ln h v6) then (pm_R h v6 x1.toNatClampNeg).bind fun v11 => (pm_R (pm_setR h x0 17 (some v11)) x0 3).bind fun v13 => (pm_R (pm_setR h x0 17 (some v11)) x0 2).bind fun v15 => if pm_kd (pm_setR h x0 17 (some v11)) v15 = 7 then (pm_R (pm_setR h x0 17 (some v11)) v15 11).bind fun v18 => (fX12_item (pm_setR h x0 17 (some v11)) v18 (2 * x1)).bind fun v20 => if pm_kd (pm_setR h x0 17 (some v11)) v13 = 9 then (fX9_open (pm_setR h x0 17 (some v11)) v13 v15 v20).bind fun v23 => if pm_kd v23 x0 = 1 then (fX1_readLocals v23 x0).bind fun v27 => if pm_kd v27 x0 = 1 then (pm_R (pm_setI (pm_setI (pm_setI v27 x0 6 0) x0 8 0) x0 10 0) x0 2).bind fun v31 => if pm_kd (pm_setI (pm_setI (pm_setI v27 x0 6 0) x0 8 0) x0 10 0) v31 = 7 then (fX7_imported (pm_setI (pm_setI (pm_setI v27 x0 6 0) x0 8 0) x0 10 0) v31 0).bind fun v34 => (fX7_of (pm_setI (pm_setI (pm_setI v27 x0 6 0) x0 8 0) x0 10 0) v31 0 (v34 + x1) 1).bind fun v36 => (fX1_openLabel (pm_setI (pm_setI (pm_setI v27 x0 6 0) x0 8 0) x0 10 0) x0 0 v36.toInt32 1 (-1)).bind fun v38 => some (.inl (.inr (.inl ((x0, 0, v38))))) else none else none else none else none else none else none) else (some (.inr (h))) else none else none else none)
noncomputable def tX1_body_102 (x0 : Nat) (x2 : Int32) (h : pm_H) : Option (((Nat × Int32 × pm_H) ⊕ (Nat × Int32 × pm_H) ⊕ (Nat × pm_H) ⊕ (Nat × Int32 × pm_H) ⊕ (Nat × Int32 × pm_H) ⊕ (Nat × Nat × pm_H)) ⊕ pm_H) := if pm_kd h x0 = 1 then (pm_R h x0 2).bind fun v42 => if pm_kd h v42 = 7 then (pm_R h v42 0).bind fun v45 => if pm_kd h v45 = 33 then if (Int32.ofNat (pm_ln h v45)) ≤ x2 then (some (.inl (.inr (.inr (.inl ((x0, h))))))) else (if (pm_I h x0 10) ≤ 0 then (some (.inl (.inr (.inr (.inl ((x0, h))))))) else (if (pm_I h x0 0) = 0 then ((pm_R h x0 3).bind fun v51 => if pm_kd h v51 = 9 then (fX9_instruction h v51).bind fun v54 => if pm_kd v54 x0 = 1 then pm_let (pm_I v54 x0 6) fun y58 => (pm_R (pm_setI v54 x0 7 y58) x0 3).bind fun v60 => if pm_kd (pm_setI v54 x0 7 y58) v60 = 9 then if 17 < (pm_I (pm_setI v54 x0 7 y58) v60 6) then ((fX1_other (pm_setI v54 x0 7 y58) x0 (pm_I (pm_setI v54 x0 7 y58) v60 6)).bind fun v64 => some (.inl (.inr (.inr (.inr (.inl ((x0, x2, v64)))))))) else ((fX1_control (pm_setI v54 x0 7 y58) x0 (pm_I (pm_setI v54 x0 7 y58) v60 6)).bind fun v67 => some (.inl (.inr (.inr (.inr (.inr (.inl ((x0, x2, v67))))))))) else none else none else none) else (some (.inl (.inr (.inr (.inl ((x0, h))))))))) else none else none else none
noncomputable def tX1_body_208 (x0 : Nat) (h : pm_H) : Option (((Nat × Int32 × pm_H) ⊕ (Nat × Int32 × pm_H) ⊕ (Nat × pm_H) ⊕ (Nat × Int32 × pm_H) ⊕ (Nat × Int32 × pm_H) ⊕ (Nat × Nat × pm_H)) ⊕ pm_H) := if pm_kd h x0 = 1 then (pm_R h x0 17).bind fun v70 => pm_let (pm_I h x0 12) fun y72 => if pm_kd h v70 = 0 then pm_let (pm_I (pm_setI h v70 3 y72) x0 8) fun y75 => (pm_R (pm_setI (pm_setI h v70 3 y72) v70 4 y75) x0 13).bind fun v77 => (fJ7_copyOf_59c91 (pm_setI (pm_setI h v70 3 y72) v70 4 y75) v77 (pm_I (pm_setI (pm_setI h v70 3 y72) v70 4 y75) x0 14)).bind fun v79 => some (.inl (.inr (.inr (.inr (.inr (.inr ((v79.1, v70, v79.2)))))))) else none else none
noncomputable def tX1_body_180 (x0 : Nat) (x2 : Int32) (h : pm_H) : Option (((Nat × Int32 × pm_H) ⊕ (Nat × Int32 × pm_H) ⊕ (Nat × pm_H) ⊕ (Nat × Int32 × pm_H) ⊕ (Nat × Int32 × pm_H) ⊕ (Nat × Nat × pm_H)) ⊕ pm_H) := if pm_kd h x0 = 1 then if (pm_I h x0 10) ≤ 0 then (pm_let (x2 + 1) fun y83 => some (.inl (.inr (.inl ((x0, y83, h)))))) else (pm_let (pm_I h x0 6) fun y85 => pm_let (if (pm_I h x0 8) < y85 then y85 else (pm_I h x0 8)) fun y87 => pm_let (x2 + 1) fun y89 => some (.inl (.inr (.inl ((x0, y89, pm_setI h x0 8 y87)))))) else none
noncomputable def tX1_body_166 (x0 : Nat) (x2 : Int32) (h : pm_H) : Option (((Nat × Int32 × pm_H) ⊕ (Nat × Int32 × pm_H) ⊕ (Nat × pm_H) ⊕ (Nat × Int32 × pm_H) ⊕ (Nat × Int32 × pm_H) ⊕ (Nat × Nat × pm_H)) ⊕ pm_H) := some (.inl (.inr (.inr (.inr (.inl ((x0, x2, h)))))))
noncomputable def tX1_body_245 (s0 : Nat) (s1 : Nat) (h : pm_H) : Option (((Nat × Int32 × pm_H) ⊕ (Nat × Int32 × pm_H) ⊕ (Nat × pm_H) ⊕ (Nat × Int32 × pm_H) ⊕ (Nat × Int32 × pm_H) ⊕ (Nat × Nat × pm_H)) ⊕ pm_H) := if pm_kd h s1 = 0 then some (.inr (pm_setR h s1 5 (some s0))) else none
noncomputable def sX1_body : ((Nat × Int32 × pm_H) ⊕ (Nat × Int32 × pm_H) ⊕ (Nat × pm_H) ⊕ (Nat × Int32 × pm_H) ⊕ (Nat × Int32 × pm_H) ⊕ (Nat × Nat × pm_H)) → Option (((Nat × Int32 × pm_H) ⊕ (Nat × Int32 × pm_H) ⊕ (Nat × pm_H) ⊕ (Nat × Int32 × pm_H) ⊕ (Nat × Int32 × pm_H) ⊕ (Nat × Nat × pm_H)) ⊕ pm_H) := fun z => match z with
  | .inl (x0, x1, h) => tX1_body_0 x0 x1 h
  | .inr (.inl (x0, x2, h)) => tX1_body_102 x0 x2 h
  | .inr (.inr (.inl (x0, h))) => tX1_body_208 x0 h
  | .inr (.inr (.inr (.inl (x0, x2, h)))) => tX1_body_180 x0 x2 h
  | .inr (.inr (.inr (.inr (.inl (x0, x2, h))))) => tX1_body_166 x0 x2 h
  | .inr (.inr (.inr (.inr (.inr (s0, s1, h))))) => tX1_body_245 s0 s1 h
noncomputable def fX1_body (h : pm_H) (a0 : Nat) (p1 : Int32) : Option pm_H := pm_lim sX1_body (.inl ((a0, p1, h)))
set_option maxHeartbeats 4000000 in
set_option maxRecDepth 100000 in
theorem mlX1_body {r : pm_H} : ∀ n : Nat, (∀ (x0 : Nat) (x1 : Int32) (h : pm_H), pm_iter sX1_body n (.inl (x0, x1, h)) = some r → pm_Le h r) ∧ (∀ (x0 : Nat) (x2 : Int32) (h : pm_H), pm_iter sX1_body n (.inr (.inl (x0, x2, h))) = some r → pm_Le h r) ∧ (∀ (x0 : Nat) (h : pm_H), pm_iter sX1_body n (.inr (.inr (.inl (x0, h)))) = some r → pm_Le h r) ∧ (∀ (x0 : Nat) (x2 : Int32) (h : pm_H), pm_iter sX1_body n (.inr (.inr (.inr (.inl (x0, x2, h))))) = some r → pm_Le h r) ∧ (∀ (x0 : Nat) (x2 : Int32) (h : pm_H), pm_iter sX1_body n (.inr (.inr (.inr (.inr (.inl (x0, x2, h)))))) = some r → pm_Le h r) ∧ (∀ (s0 : Nat) (s1 : Nat) (h : pm_H), pm_iter sX1_body n (.inr (.inr (.inr (.inr (.inr (s0, s1, h)))))) = some r → pm_Le h r) := by
  intro n
  induction n with
  | zero => exact ⟨fun _ _ _ hf => (by cases hf), fun _ _ _ hf => (by cases hf), fun _ _ hf => (by cases hf), fun _ _ _ hf => (by cases hf), fun _ _ _ hf => (by cases hf), fun _ _ _ hf => (by cases hf)⟩
  | succ n ih =>
    refine ⟨fun x0 x1 h hf => ?_, ?_⟩
    · obtain ⟨y, hf, hi⟩ := pm_iter_s hf
      have hf : tX1_body_0 x0 x1 h = some y := hf
      unfold tX1_body_0 at hf
      have K0 := pm_S3.rf h
      by_cases c1 : x1 < 0
      · have hf := pm_it hf c1
        have hf := Option.some.inj hf
        subst hf
        have hi := Option.some.inj (show some _ = some r from hi)
        subst hi
        exact pm_S3.le K0
      · have hf := pm_ie hf c1
        obtain ⟨k2, hf⟩ := pm_if hf
        obtain ⟨v3, e4, hf⟩ := pm_bd hf
        obtain ⟨k5, hf⟩ := pm_if hf
        obtain ⟨v6, e7, hf⟩ := pm_bd hf
        obtain ⟨k8, hf⟩ := pm_if hf
        by_cases c9 : x1 < (Int32.ofNat (pm_ln h v6))
        · have hf := pm_it hf c9
          obtain ⟨u10, hf⟩ := pm_if hf
          obtain ⟨v11, e12, hf⟩ := pm_bd hf
          obtain ⟨v13, e14, hf⟩ := pm_bd hf
          obtain ⟨v15, e16, hf⟩ := pm_bd hf
          obtain ⟨k17, hf⟩ := pm_if hf
          obtain ⟨v18, e19, hf⟩ := pm_bd hf
          obtain ⟨v20, e21, hf⟩ := pm_bd hf
          obtain ⟨k22, hf⟩ := pm_if hf
          obtain ⟨v23, e24, hf⟩ := pm_bd hf
          have K25 := pm_S3.trans (kpX9_open e24) (pm_S3R K0)
          obtain ⟨k26, hf⟩ := pm_if hf
          obtain ⟨v27, e28, hf⟩ := pm_bd hf
          have K29 := pm_S3.trans (kpX1_readLocals e28) K25
          obtain ⟨k30, hf⟩ := pm_if hf
          obtain ⟨v31, e32, hf⟩ := pm_bd hf
          obtain ⟨k33, hf⟩ := pm_if hf
          obtain ⟨v34, e35, hf⟩ := pm_bd hf
          obtain ⟨v36, e37, hf⟩ := pm_bd hf
          obtain ⟨v38, e39, hf⟩ := pm_bd hf
          have K40 := pm_S3.trans (kpX1_openLabel e39) (pm_S3I (pm_S3I (pm_S3I K29)))
          cases hf
          exact (pm_S3.le K40).trans (ih.2.1 x0 0 v38 hi)
        · have hf := pm_ie hf c9
          have hf := Option.some.inj hf
          subst hf
          have hi := Option.some.inj (show some _ = some r from hi)
          subst hi
          exact pm_S3.le K0
    refine ⟨fun x0 x2 h hf => ?_, ?_⟩
    · obtain ⟨y, hf, hi⟩ := pm_iter_s hf
      have hf : tX1_body_102 x0 x2 h = some y := hf
      unfold tX1_body_102 at hf
      have K0 := pm_S3.rf h
      obtain ⟨k41, hf⟩ := pm_if hf
      obtain ⟨v42, e43, hf⟩ := pm_bd hf
      obtain ⟨k44, hf⟩ := pm_if hf
      obtain ⟨v45, e46, hf⟩ := pm_bd hf
      obtain ⟨k47, hf⟩ := pm_if hf
      by_cases c48 : (Int32.ofNat (pm_ln h v45)) ≤ x2
      · have hf := pm_it hf c48
        cases hf
        exact (pm_S3.le K0).trans (ih.2.2.1 x0 h hi)
      · have hf := pm_ie hf c48
        by_cases c49 : (pm_I h x0 10) ≤ 0
        · have hf := pm_it hf c49
          cases hf
          exact (pm_S3.le K0).trans (ih.2.2.1 x0 h hi)
        · have hf := pm_ie hf c49
          by_cases c50 : (pm_I h x0 0) = 0
          · have hf := pm_it hf c50
            obtain ⟨v51, e52, hf⟩ := pm_bd hf
            obtain ⟨k53, hf⟩ := pm_if hf
            obtain ⟨v54, e55, hf⟩ := pm_bd hf
            have K56 := pm_S3.trans (kpX9_instruction e55) K0
            obtain ⟨k57, hf⟩ := pm_if hf
            obtain ⟨y58, e59, hf⟩ := pm_lt hf
            obtain ⟨v60, e61, hf⟩ := pm_bd hf
            obtain ⟨k62, hf⟩ := pm_if hf
            by_cases c63 : 17 < (pm_I (pm_setI v54 x0 7 y58) v60 6)
            · have hf := pm_it hf c63
              obtain ⟨v64, e65, hf⟩ := pm_bd hf
              have K66 := pm_S3.trans (kpX1_other e65) (pm_S3I K56)
              cases hf
              exact (pm_S3.le K66).trans (ih.2.2.2.1 x0 x2 v64 hi)
            · have hf := pm_ie hf c63
              obtain ⟨v67, e68, hf⟩ := pm_bd hf
              cases hf
              exact ((pm_S3.le (pm_S3I K56)).trans (moX1_control e68)).trans (ih.2.2.2.2.1 x0 x2 v67 hi)
          · have hf := pm_ie hf c50
            cases hf
            exact (pm_S3.le K0).trans (ih.2.2.1 x0 h hi)
    refine ⟨fun x0 h hf => ?_, ?_⟩
    · obtain ⟨y, hf, hi⟩ := pm_iter_s hf
      have hf : tX1_body_208 x0 h = some y := hf
      unfold tX1_body_208 at hf
      have K0 := pm_S3.rf h
      obtain ⟨k69, hf⟩ := pm_if hf
      obtain ⟨v70, e71, hf⟩ := pm_bd hf
      obtain ⟨y72, e73, hf⟩ := pm_lt hf
      obtain ⟨k74, hf⟩ := pm_if hf
      obtain ⟨y75, e76, hf⟩ := pm_lt hf
      obtain ⟨v77, e78, hf⟩ := pm_bd hf
      obtain ⟨v79, e80, hf⟩ := pm_bd hf
      cases hf
      exact ((pm_S3.le (pm_S3I (pm_S3I K0))).trans (moJ7_copyOf_59c91 e80)).trans (ih.2.2.2.2.2 v79.1 v70 v79.2 hi)
    refine ⟨fun x0 x2 h hf => ?_, ?_⟩
    · obtain ⟨y, hf, hi⟩ := pm_iter_s hf
      have hf : tX1_body_180 x0 x2 h = some y := hf
      unfold tX1_body_180 at hf
      have K0 := pm_S3.rf h
      obtain ⟨k81, hf⟩ := pm_if hf
      by_cases c82 : (pm_I h x0 10) ≤ 0
      · have hf := pm_it hf c82
        obtain ⟨y83, e84, hf⟩ := pm_lt hf
        cases hf
        exact (pm_S3.le K0).trans (ih.2.1 x0 y83 h hi)
      · have hf := pm_ie hf c82
        obtain ⟨y85, e86, hf⟩ := pm_lt hf
        obtain ⟨y87, e88, hf⟩ := pm_lt hf
        obtain ⟨y89, e90, hf⟩ := pm_lt hf
        cases hf
        exact (pm_S3.le (pm_S3I K0)).trans (ih.2.1 x0 y89 (pm_setI h x0 8 y87) hi)
    refine ⟨fun x0 x2 h hf => ?_, ?_⟩
    · obtain ⟨y, hf, hi⟩ := pm_iter_s hf
      have hf : tX1_body_166 x0 x2 h = some y := hf
      unfold tX1_body_166 at hf
      have K0 := pm_S3.rf h
      cases hf
      exact (pm_S3.le K0).trans (ih.2.2.2.1 x0 x2 h hi)
    refine fun s0 s1 h hf => ?_
    obtain ⟨y, hf, hi⟩ := pm_iter_s hf
    have hf : tX1_body_245 s0 s1 h = some y := hf
    unfold tX1_body_245 at hf
    have K0 := pm_S3.rf h
    obtain ⟨k91, hf⟩ := pm_if hf
    have hf := Option.some.inj hf
    subst hf
    have hi := Option.some.inj (show some _ = some r from hi)
    subst hi
    exact pm_S3.le (pm_S3R K0)
set_option maxHeartbeats 4000000 in
set_option maxRecDepth 100000 in
theorem moX1_body {h : pm_H} {a0 : Nat} {p1 : Int32} {r : pm_H} (hf : fX1_body h a0 p1 = some r) : pm_Le h r := by
  unfold fX1_body at hf
  have K0 := pm_S3.rf h
  obtain ⟨n, hn⟩ := pm_lim_iter hf
  exact (mlX1_body n).1 a0 p1 h hn
set_option maxHeartbeats 4000000 in
set_option maxRecDepth 100000 in
theorem lpX1_body {g : pm_Gm} {l : Launch} {G : pm_Gl} {Qr : Option Value → pm_H → Prop} (C : pm_C g cX1_body RX1) {h0 : pm_H} {r : pm_H} (X : pm_X g l G mX1_body (pm_sz r - pm_sz h0) (pm_us r - pm_us h0) Qr) (q : Qr none r) : ∀ n : Nat, (∀ (x0 : Nat) (x1 : Int32) (h : pm_H), pm_Le h0 h → pm_iter sX1_body n (.inl (x0, x1, h)) = some r → pm_G g 0 [(0, .ref x0), (1, .int x1)] [] h (pm_sz h - pm_sz h0) (pm_us h - pm_us h0)) ∧ (∀ (x0 : Nat) (x2 : Int32) (h : pm_H), pm_Le h0 h → pm_iter sX1_body n (.inr (.inl (x0, x2, h))) = some r → pm_G g 102 [(0, .ref x0), (2, .int x2)] [] h (pm_sz h - pm_sz h0) (pm_us h - pm_us h0)) ∧ (∀ (x0 : Nat) (h : pm_H), pm_Le h0 h → pm_iter sX1_body n (.inr (.inr (.inl (x0, h)))) = some r → pm_G g 208 [(0, .ref x0)] [] h (pm_sz h - pm_sz h0) (pm_us h - pm_us h0)) ∧ (∀ (x0 : Nat) (x2 : Int32) (h : pm_H), pm_Le h0 h → pm_iter sX1_body n (.inr (.inr (.inr (.inl (x0, x2, h))))) = some r → pm_G g 180 [(0, .ref x0), (2, .int x2)] [] h (pm_sz h - pm_sz h0) (pm_us h - pm_us h0)) ∧ (∀ (x0 : Nat) (x2 : Int32) (h : pm_H), pm_Le h0 h → pm_iter sX1_body n (.inr (.inr (.inr (.inr (.inl (x0, x2, h)))))) = some r → pm_G g 166 [(0, .ref x0), (2, .int x2)] [] h (pm_sz h - pm_sz h0) (pm_us h - pm_us h0)) ∧ (∀ (s0 : Nat) (s1 : Nat) (h : pm_H), pm_Le h0 h → pm_iter sX1_body n (.inr (.inr (.inr (.inr (.inr (s0, s1, h)))))) = some r → pm_G g 245 [] [.ref s0, .ref s1] h (pm_sz h - pm_sz h0) (pm_us h - pm_us h0)) := by
  intro n
  induction n with
  | zero => exact ⟨fun _ _ _ _ hf => (by cases hf), fun _ _ _ _ hf => (by cases hf), fun _ _ _ hf => (by cases hf), fun _ _ _ _ hf => (by cases hf), fun _ _ _ _ hf => (by cases hf), fun _ _ _ _ hf => (by cases hf)⟩
  | succ n ih =>
    refine ⟨fun x0 x1 h m0 hf => ?_, ?_⟩
    · have le0 := (mlX1_body (n + 1)).1 x0 x1 h hf
      have kc1 := Nat.sub_le_sub_right le0.1 (pm_sz h0)
      have kc2 := Nat.sub_le_sub_right le0.2 (pm_us h0)
      have K0 := pm_S3.rf h
      obtain ⟨y, hf, hi⟩ := pm_iter_s hf
      have hf : tX1_body_0 x0 x1 h = some y := hf
      unfold tX1_body_0 at hf
      refine pm_iload_n C dX1_body_0 rfl rfl ?_
      refine pm_if_lt (tgt := 16) C dX1_body_1 (by decide) (fun c1 => ?_) (fun c1 => ?_)
      · have hf := pm_it hf c1
        have hf := Option.some.inj hf
        subst hf
        have hi := Option.some.inj (show some _ = some r from hi)
        subst hi
        exact pm_vret C X dX1_body_16 rfl kc1 kc2 q
      · have hf := pm_ie hf c1
        refine pm_iload_n C dX1_body_4 rfl rfl ?_
        refine pm_aload_n C dX1_body_5 rfl rfl ?_
        obtain ⟨k2, hf⟩ := pm_if hf
        obtain ⟨v3, e4, hf⟩ := pm_bd hf
        refine pm_getR C dX1_body_6 flX1_40 rfl k2 e4 ?_
        obtain ⟨k5, hf⟩ := pm_if hf
        obtain ⟨v6, e7, hf⟩ := pm_bd hf
        refine pm_getR C dX1_body_9 flX1_207 rfl k5 e7 ?_
        obtain ⟨k8, hf⟩ := pm_if hf
        refine pm_alen (t := 6) C dX1_body_12 (by decide) k8 rfl ?_
        refine pm_icmp_lt (tgt := 17) C dX1_body_13 (by decide) (fun c9 => ?_) (fun c9 => ?_)
        · have hf := pm_it hf c9
          refine pm_aload_n C dX1_body_17 rfl rfl ?_
          refine pm_aload_n C dX1_body_18 rfl rfl ?_
          refine pm_getR C dX1_body_19 flX1_40 rfl k2 e4 ?_
          refine pm_getR C dX1_body_22 flX1_207 rfl k5 e7 ?_
          refine pm_iload_n C dX1_body_25 rfl rfl ?_
          obtain ⟨u10, hf⟩ := pm_if hf
          obtain ⟨v11, e12, hf⟩ := pm_bd hf
          refine pm_ald (t := 6) C dX1_body_26 (by decide) rfl k8 u10 e12 ?_
          refine pm_putR C dX1_body_27 flX1_49 rfl rfl k2 ?_
          refine pm_aload_n C dX1_body_30 rfl rfl ?_
          obtain ⟨v13, e14, hf⟩ := pm_bd hf
          refine pm_getR C dX1_body_31 flX1_36 rfl k2 e14 ?_
          refine pm_aload_n C dX1_body_34 rfl rfl ?_
          obtain ⟨v15, e16, hf⟩ := pm_bd hf
          refine pm_getR C dX1_body_35 flX1_40 rfl k2 e16 ?_
          refine pm_aload_n C dX1_body_38 rfl rfl ?_
          refine pm_getR C dX1_body_39 flX1_40 rfl k2 e16 ?_
          obtain ⟨k17, hf⟩ := pm_if hf
          obtain ⟨v18, e19, hf⟩ := pm_bd hf
          refine pm_getR C dX1_body_42 flX1_204 rfl k17 e19 ?_
          refine pm_iconst (v := 2) C dX1_body_45 (by decide) ?_
          refine pm_iload_n C dX1_body_46 rfl rfl ?_
          refine pm_imul C dX1_body_47 ?_
          obtain ⟨v20, e21, hf⟩ := pm_bd hf
          refine pm_callS (as := [.ref v18, .int (2 * x1)]) (st := [.ref v15, .ref v13]) C X dX1_body_48 lnX1_105 myX12_item stX12_item ⟨by decide, by decide⟩ rfl rfl (Nat.le_of_ble_eq_true rfl) kc1 kc2 (ctX12_item e21 ?_)
          show pm_G g 51 [(0, .ref x0), (1, .int x1)] [.int v20, .ref v15, .ref v13] (pm_setR h x0 17 (some v11)) (pm_sz h - pm_sz h0) (pm_us h - pm_us h0)
          obtain ⟨k22, hf⟩ := pm_if hf
          obtain ⟨v23, e24, hf⟩ := pm_bd hf
          refine pm_callV (as := [.ref v15, .int v20]) (st := []) C X dX1_body_51 lnX1_170 myX9_open viX9_open ⟨by decide, by decide⟩ rfl rfl k22 (Nat.le_of_ble_eq_true rfl) kc1 kc2 (ctX9_open e24 ?_)
          have K25 := pm_S3.trans (kpX9_open e24) (pm_S3R K0)
          show pm_G g 54 [(0, .ref x0), (1, .int x1)] [] v23 (pm_sz h - pm_sz h0) (pm_us h - pm_us h0)
          refine pm_aload_n C dX1_body_54 rfl rfl ?_
          obtain ⟨k26, hf⟩ := pm_if hf
          obtain ⟨v27, e28, hf⟩ := pm_bd hf
          refine pm_callV (as := []) (st := []) C X dX1_body_55 lnX1_211 myX1_readLocals viX1_readLocals ⟨by decide, by decide⟩ rfl rfl k26 (Nat.le_of_ble_eq_true rfl) kc1 kc2 (ctX1_readLocals e28 ?_)
          have K29 := pm_S3.trans (kpX1_readLocals e28) K25
          show pm_G g 58 [(0, .ref x0), (1, .int x1)] [] v27 (pm_sz h - pm_sz h0) (pm_us h - pm_us h0)
          refine pm_aload_n C dX1_body_58 rfl rfl ?_
          refine pm_iconst (v := 0) C dX1_body_59 (by decide) ?_
          obtain ⟨k30, hf⟩ := pm_if hf
          refine pm_putI C dX1_body_60 flX1_214 rfl rfl k30 rfl rfl ?_
          refine pm_aload_n C dX1_body_63 rfl rfl ?_
          refine pm_iconst (v := 0) C dX1_body_64 (by decide) ?_
          refine pm_putI C dX1_body_65 flX1_217 rfl rfl k30 rfl rfl ?_
          refine pm_aload_n C dX1_body_68 rfl rfl ?_
          refine pm_iconst (v := 0) C dX1_body_69 (by decide) ?_
          refine pm_putI C dX1_body_70 flX1_220 rfl rfl k30 rfl rfl ?_
          refine pm_aload_n C dX1_body_73 rfl rfl ?_
          refine pm_iconst (v := 0) C dX1_body_74 (by decide) ?_
          refine pm_aload_n C dX1_body_75 rfl rfl ?_
          obtain ⟨v31, e32, hf⟩ := pm_bd hf
          refine pm_getR C dX1_body_76 flX1_40 rfl k30 e32 ?_
          refine pm_iconst (v := 0) C dX1_body_79 (by decide) ?_
          refine pm_aload_n C dX1_body_80 rfl rfl ?_
          refine pm_getR C dX1_body_81 flX1_40 rfl k30 e32 ?_
          refine pm_iconst (v := 0) C dX1_body_84 (by decide) ?_
          obtain ⟨k33, hf⟩ := pm_if hf
          obtain ⟨v34, e35, hf⟩ := pm_bd hf
          refine pm_callV (as := [.int 0]) (st := [.int 0, .ref v31, .int 0, .ref x0]) C X dX1_body_85 lnX1_130 myX7_imported viX7_imported ⟨by decide, by decide⟩ rfl rfl k33 (Nat.le_of_ble_eq_true rfl) kc1 kc2 (ctX7_imported e35 ?_)
          show pm_G g 88 [(0, .ref x0), (1, .int x1)] [.int v34, .int 0, .ref v31, .int 0, .ref x0] (pm_setI (pm_setI (pm_setI v27 x0 6 0) x0 8 0) x0 10 0) (pm_sz h - pm_sz h0) (pm_us h - pm_us h0)
          refine pm_iload_n C dX1_body_88 rfl rfl ?_
          refine pm_iadd C dX1_body_89 ?_
          refine pm_iconst (v := 1) C dX1_body_90 (by decide) ?_
          obtain ⟨v36, e37, hf⟩ := pm_bd hf
          refine pm_callV (as := [.int 0, .int (v34 + x1), .int 1]) (st := [.int 0, .ref x0]) C X dX1_body_91 lnX1_122 myX7_of viX7_of ⟨by decide, by decide⟩ rfl rfl k33 (Nat.le_of_ble_eq_true rfl) kc1 kc2 (ctX7_of e37 ?_)
          show pm_G g 94 [(0, .ref x0), (1, .int x1)] [.long v36, .int 0, .ref x0] (pm_setI (pm_setI (pm_setI v27 x0 6 0) x0 8 0) x0 10 0) (pm_sz h - pm_sz h0) (pm_us h - pm_us h0)
          refine pm_l2i C dX1_body_94 ?_
          refine pm_iconst (v := 1) C dX1_body_95 (by decide) ?_
          refine pm_iconst (v := (-1)) C dX1_body_96 (by decide) ?_
          obtain ⟨v38, e39, hf⟩ := pm_bd hf
          refine pm_callV (as := [.int 0, .int v36.toInt32, .int 1, .int (-1)]) (st := []) C X dX1_body_97 lnX1_223 myX1_openLabel viX1_openLabel ⟨by decide, by decide⟩ rfl rfl k30 (Nat.le_of_ble_eq_true rfl) kc1 kc2 (ctX1_openLabel e39 ?_)
          have K40 := pm_S3.trans (kpX1_openLabel e39) (pm_S3I (pm_S3I (pm_S3I K29)))
          show pm_G g 100 [(0, .ref x0), (1, .int x1)] [] v38 (pm_sz h - pm_sz h0) (pm_us h - pm_us h0)
          refine pm_iconst (v := 0) C dX1_body_100 (by decide) ?_
          refine pm_istore_n (lv' := [(2, .int 0), (0, .ref x0), (1, .int x1)]) C dX1_body_101 rfl (pm_nl X (by decide)) rfl ?_
          cases hf
          exact pa_join K40 (pm_sub [1, 0] rfl (ih.2.1 x0 0 v38 (m0.trans (pm_S3.le K40)) hi))
        · have hf := pm_ie hf c9
          have hf := Option.some.inj hf
          subst hf
          have hi := Option.some.inj (show some _ = some r from hi)
          subst hi
          exact pm_vret C X dX1_body_16 rfl kc1 kc2 q
    refine ⟨fun x0 x2 h m0 hf => ?_, ?_⟩
    · have le0 := (mlX1_body (n + 1)).2.1 x0 x2 h hf
      have kc1 := Nat.sub_le_sub_right le0.1 (pm_sz h0)
      have kc2 := Nat.sub_le_sub_right le0.2 (pm_us h0)
      have K0 := pm_S3.rf h
      obtain ⟨y, hf, hi⟩ := pm_iter_s hf
      have hf : tX1_body_102 x0 x2 h = some y := hf
      unfold tX1_body_102 at hf
      refine pm_iload_n C dX1_body_102 rfl rfl ?_
      refine pm_aload_n C dX1_body_103 rfl rfl ?_
      obtain ⟨k41, hf⟩ := pm_if hf
      obtain ⟨v42, e43, hf⟩ := pm_bd hf
      refine pm_getR C dX1_body_104 flX1_40 rfl k41 e43 ?_
      obtain ⟨k44, hf⟩ := pm_if hf
      obtain ⟨v45, e46, hf⟩ := pm_bd hf
      refine pm_getR C dX1_body_107 flX1_158 rfl k44 e46 ?_
      obtain ⟨k47, hf⟩ := pm_if hf
      refine pm_alen (t := 1) C dX1_body_110 (by decide) k47 rfl ?_
      refine pm_icmp_ge (tgt := 208) C dX1_body_111 (by decide) (fun c48 => ?_) (fun c48 => ?_)
      · have hf := pm_it hf c48
        cases hf
        exact pa_join K0 (pm_sub [0] rfl (ih.2.2.1 x0 h (m0.trans (pm_S3.le K0)) hi))
      · have hf := pm_ie hf c48
        refine pm_aload_n C dX1_body_114 rfl rfl ?_
        refine pm_getI C dX1_body_115 flX1_220 rfl k41 rfl ?_
        refine pm_if_le (tgt := 208) C dX1_body_118 (by decide) (fun c49 => ?_) (fun c49 => ?_)
        · have hf := pm_it hf c49
          cases hf
          exact pa_join K0 (pm_sub [0] rfl (ih.2.2.1 x0 h (m0.trans (pm_S3.le K0)) hi))
        · have hf := pm_ie hf c49
          refine pm_aload_n C dX1_body_121 rfl rfl ?_
          refine pm_getI C dX1_body_122 flX1_53 rfl k41 rfl ?_
          refine pm_if_ne (tgt := 208) C dX1_body_125 (by decide) (fun c50 => ?_) (fun c50 => ?_)
          · have hf := pm_ie hf c50
            cases hf
            exact pa_join K0 (pm_sub [0] rfl (ih.2.2.1 x0 h (m0.trans (pm_S3.le K0)) hi))
          · have hf := pm_it hf c50
            refine pm_aload_n C dX1_body_128 rfl rfl ?_
            obtain ⟨v51, e52, hf⟩ := pm_bd hf
            refine pm_getR C dX1_body_129 flX1_36 rfl k41 e52 ?_
            obtain ⟨k53, hf⟩ := pm_if hf
            obtain ⟨v54, e55, hf⟩ := pm_bd hf
            refine pm_callV (as := []) (st := []) C X dX1_body_132 lnX1_188 myX9_instruction viX9_instruction ⟨by decide, by decide⟩ rfl rfl k53 (Nat.le_of_ble_eq_true rfl) kc1 kc2 (ctX9_instruction e55 ?_)
            have K56 := pm_S3.trans (kpX9_instruction e55) K0
            show pm_G g 135 [(0, .ref x0), (2, .int x2)] [] v54 (pm_sz h - pm_sz h0) (pm_us h - pm_us h0)
            refine pm_aload_n C dX1_body_135 rfl rfl ?_
            refine pm_aload_n C dX1_body_136 rfl rfl ?_
            obtain ⟨k57, hf⟩ := pm_if hf
            refine pm_getI C dX1_body_137 flX1_214 rfl k57 rfl ?_
            obtain ⟨y58, e59, hf⟩ := pm_lt hf
            refine pm_topI e59 ?_
            refine pm_putI C dX1_body_140 flX1_227 rfl rfl k57 rfl rfl ?_
            refine pm_aload_n C dX1_body_143 rfl rfl ?_
            obtain ⟨v60, e61, hf⟩ := pm_bd hf
            refine pm_getR C dX1_body_144 flX1_36 rfl k57 e61 ?_
            obtain ⟨k62, hf⟩ := pm_if hf
            refine pm_getI C dX1_body_147 flX1_191 rfl k62 rfl ?_
            refine pm_bipush (v := 17) C dX1_body_150 (by decide) ?_
            refine pm_icmp_gt (tgt := 169) C dX1_body_152 (by decide) (fun c63 => ?_) (fun c63 => ?_)
            · have hf := pm_it hf c63
              refine pm_aload_n C dX1_body_169 rfl rfl ?_
              refine pm_aload_n C dX1_body_170 rfl rfl ?_
              refine pm_getR C dX1_body_171 flX1_36 rfl k57 e61 ?_
              refine pm_getI C dX1_body_174 flX1_191 rfl k62 rfl ?_
              obtain ⟨v64, e65, hf⟩ := pm_bd hf
              refine pm_callV (as := [.int (pm_I (pm_setI v54 x0 7 y58) v60 6)]) (st := []) C X dX1_body_177 lnX1_233 myX1_other viX1_other ⟨by decide, by decide⟩ rfl rfl k57 (Nat.le_of_ble_eq_true rfl) kc1 kc2 (ctX1_other e65 ?_)
              have K66 := pm_S3.trans (kpX1_other e65) (pm_S3I K56)
              show pm_G g 180 [(0, .ref x0), (2, .int x2)] [] v64 (pm_sz h - pm_sz h0) (pm_us h - pm_us h0)
              cases hf
              exact pa_join K66 (pm_sub [0, 1] rfl (ih.2.2.2.1 x0 x2 v64 (m0.trans (pm_S3.le K66)) hi))
            · have hf := pm_ie hf c63
              refine pm_aload_n C dX1_body_155 rfl rfl ?_
              refine pm_aload_n C dX1_body_156 rfl rfl ?_
              refine pm_getR C dX1_body_157 flX1_36 rfl k57 e61 ?_
              refine pm_getI C dX1_body_160 flX1_191 rfl k62 rfl ?_
              obtain ⟨v67, e68, hf⟩ := pm_bd hf
              cases hf
              refine pm_callV (as := [.int (pm_I (pm_setI v54 x0 7 y58) v60 6)]) (st := []) C X dX1_body_163 lnX1_230 myX1_control viX1_control ⟨by decide, by decide⟩ rfl rfl k57 (Nat.le_of_ble_eq_true rfl) (pa_le1 (pm_S3I K56) m0 (moX1_control e68) ((mlX1_body n).2.2.2.2.1 x0 x2 v67 hi)) (pa_le2 (pm_S3I K56) m0 (moX1_control e68) ((mlX1_body n).2.2.2.2.1 x0 x2 v67 hi)) (ctX1_control e68 ?_)
              show pm_G g 166 [(0, .ref x0), (2, .int x2)] [] v67 (pm_sz h - pm_sz h0 + (pm_sz v67 - pm_sz (pm_setI v54 x0 7 y58))) (pm_us h - pm_us h0 + (pm_us v67 - pm_us (pm_setI v54 x0 7 y58)))
              refine pa_fin (pm_S3I K56) m0 (moX1_control e68) ?_
              exact pm_sub [0, 1] rfl (ih.2.2.2.2.1 x0 x2 v67 ((m0.trans (pm_S3.le (pm_S3I K56))).trans (moX1_control e68)) hi)
    refine ⟨fun x0 h m0 hf => ?_, ?_⟩
    · have le0 := (mlX1_body (n + 1)).2.2.1 x0 h hf
      have kc1 := Nat.sub_le_sub_right le0.1 (pm_sz h0)
      have kc2 := Nat.sub_le_sub_right le0.2 (pm_us h0)
      have K0 := pm_S3.rf h
      obtain ⟨y, hf, hi⟩ := pm_iter_s hf
      have hf : tX1_body_208 x0 h = some y := hf
      unfold tX1_body_208 at hf
      refine pm_aload_n C dX1_body_208 rfl rfl ?_
      obtain ⟨k69, hf⟩ := pm_if hf
      obtain ⟨v70, e71, hf⟩ := pm_bd hf
      refine pm_getR C dX1_body_209 flX1_49 rfl k69 e71 ?_
      refine pm_aload_n C dX1_body_212 rfl rfl ?_
      refine pm_getI C dX1_body_213 flX1_242 rfl k69 rfl ?_
      obtain ⟨y72, e73, hf⟩ := pm_lt hf
      refine pm_topI e73 ?_
      obtain ⟨k74, hf⟩ := pm_if hf
      refine pm_putI C dX1_body_216 flX1_245 rfl rfl k74 rfl rfl ?_
      refine pm_aload_n C dX1_body_219 rfl rfl ?_
      refine pm_getR C dX1_body_220 flX1_49 rfl k69 e71 ?_
      refine pm_aload_n C dX1_body_223 rfl rfl ?_
      refine pm_getI C dX1_body_224 flX1_217 rfl k69 rfl ?_
      obtain ⟨y75, e76, hf⟩ := pm_lt hf
      refine pm_topI e76 ?_
      refine pm_putI C dX1_body_227 flX1_248 rfl rfl k74 rfl rfl ?_
      refine pm_aload_n C dX1_body_230 rfl rfl ?_
      refine pm_getR C dX1_body_231 flX1_49 rfl k69 e71 ?_
      refine pm_aload_n C dX1_body_234 rfl rfl ?_
      obtain ⟨v77, e78, hf⟩ := pm_bd hf
      refine pm_getR C dX1_body_235 flX1_25 rfl k69 e78 ?_
      refine pm_aload_n C dX1_body_238 rfl rfl ?_
      refine pm_getI C dX1_body_239 flX1_251 rfl k69 rfl ?_
      obtain ⟨v79, e80, hf⟩ := pm_bd hf
      cases hf
      refine pm_callS (as := [.ref v77, .int (pm_I (pm_setI (pm_setI h v70 3 y72) v70 4 y75) x0 14)]) (st := [.ref v70]) C X dX1_body_242 lnX1_254 myJ7_copyOf_59c91 stJ7_copyOf_59c91 ⟨by decide, by decide⟩ rfl rfl (Nat.le_of_ble_eq_true rfl) (pa_le1 (pm_S3I (pm_S3I K0)) m0 (moJ7_copyOf_59c91 e80) ((mlX1_body n).2.2.2.2.2 v79.1 v70 v79.2 hi)) (pa_le2 (pm_S3I (pm_S3I K0)) m0 (moJ7_copyOf_59c91 e80) ((mlX1_body n).2.2.2.2.2 v79.1 v70 v79.2 hi)) (ctJ7_copyOf_59c91 e80 ?_)
      show pm_G g 245 [(0, .ref x0)] [.ref v79.1, .ref v70] v79.2 (pm_sz h - pm_sz h0 + (pm_sz v79.2 - pm_sz (pm_setI (pm_setI h v70 3 y72) v70 4 y75))) (pm_us h - pm_us h0 + (pm_us v79.2 - pm_us (pm_setI (pm_setI h v70 3 y72) v70 4 y75)))
      refine pa_fin (pm_S3I (pm_S3I K0)) m0 (moJ7_copyOf_59c91 e80) ?_
      exact pm_sub [] rfl (ih.2.2.2.2.2 v79.1 v70 v79.2 ((m0.trans (pm_S3.le (pm_S3I (pm_S3I K0)))).trans (moJ7_copyOf_59c91 e80)) hi)
    refine ⟨fun x0 x2 h m0 hf => ?_, ?_⟩
    · have le0 := (mlX1_body (n + 1)).2.2.2.1 x0 x2 h hf
      have kc1 := Nat.sub_le_sub_right le0.1 (pm_sz h0)
      have kc2 := Nat.sub_le_sub_right le0.2 (pm_us h0)
      have K0 := pm_S3.rf h
      obtain ⟨y, hf, hi⟩ := pm_iter_s hf
      have hf : tX1_body_180 x0 x2 h = some y := hf
      unfold tX1_body_180 at hf
      refine pm_aload_n C dX1_body_180 rfl rfl ?_
      obtain ⟨k81, hf⟩ := pm_if hf
      refine pm_getI C dX1_body_181 flX1_220 rfl k81 rfl ?_
      refine pm_if_le (tgt := 202) C dX1_body_184 (by decide) (fun c82 => ?_) (fun c82 => ?_)
      · have hf := pm_it hf c82
        obtain ⟨y83, e84, hf⟩ := pm_lt hf
        refine pm_iinc (v := y83) (lv' := [(2, .int y83), (0, .ref x0)]) C dX1_body_202 rfl ((congrArg (x2 + ·) (by decide : Int32.ofInt 1 = 1)).trans e84) (pm_nl X (by decide)) rfl ?_
        refine pm_goto (tgt := 102) C dX1_body_205 (by decide) ?_
        cases hf
        exact pa_join K0 (pm_sub [1, 0] rfl (ih.2.1 x0 y83 h (m0.trans (pm_S3.le K0)) hi))
      · have hf := pm_ie hf c82
        refine pm_aload_n C dX1_body_187 rfl rfl ?_
        refine pm_aload_n C dX1_body_188 rfl rfl ?_
        refine pm_getI C dX1_body_189 flX1_217 rfl k81 rfl ?_
        refine pm_aload_n C dX1_body_192 rfl rfl ?_
        refine pm_getI C dX1_body_193 flX1_214 rfl k81 rfl ?_
        obtain ⟨y85, e86, hf⟩ := pm_lt hf
        refine pm_topI e86 ?_
        refine pm_mmaxI C (pm_XR X) dX1_body_196 mtX1_236 (by decide) (by decide) (Nat.le_of_ble_eq_true rfl) kc1 kc2 ?_
        obtain ⟨y87, e88, hf⟩ := pm_lt hf
        refine pm_topI e88 ?_
        refine pm_putI C dX1_body_199 flX1_217 rfl rfl k81 rfl rfl ?_
        obtain ⟨y89, e90, hf⟩ := pm_lt hf
        refine pm_iinc (v := y89) (lv' := [(2, .int y89), (0, .ref x0)]) C dX1_body_202 rfl ((congrArg (x2 + ·) (by decide : Int32.ofInt 1 = 1)).trans e90) (pm_nl X (by decide)) rfl ?_
        refine pm_goto (tgt := 102) C dX1_body_205 (by decide) ?_
        cases hf
        exact pa_join (pm_S3I K0) (pm_sub [1, 0] rfl (ih.2.1 x0 y89 (pm_setI h x0 8 y87) (m0.trans (pm_S3.le (pm_S3I K0))) hi))
    refine ⟨fun x0 x2 h m0 hf => ?_, ?_⟩
    · have le0 := (mlX1_body (n + 1)).2.2.2.2.1 x0 x2 h hf
      have kc1 := Nat.sub_le_sub_right le0.1 (pm_sz h0)
      have kc2 := Nat.sub_le_sub_right le0.2 (pm_us h0)
      have K0 := pm_S3.rf h
      obtain ⟨y, hf, hi⟩ := pm_iter_s hf
      have hf : tX1_body_166 x0 x2 h = some y := hf
      unfold tX1_body_166 at hf
      refine pm_goto (tgt := 180) C dX1_body_166 (by decide) ?_
      cases hf
      exact pa_join K0 (pm_sub [0, 1] rfl (ih.2.2.2.1 x0 x2 h (m0.trans (pm_S3.le K0)) hi))
    refine fun s0 s1 h m0 hf => ?_
    have le0 := (mlX1_body (n + 1)).2.2.2.2.2 s0 s1 h hf
    have kc1 := Nat.sub_le_sub_right le0.1 (pm_sz h0)
    have kc2 := Nat.sub_le_sub_right le0.2 (pm_us h0)
    have K0 := pm_S3.rf h
    obtain ⟨y, hf, hi⟩ := pm_iter_s hf
    have hf : tX1_body_245 s0 s1 h = some y := hf
    unfold tX1_body_245 at hf
    obtain ⟨k91, hf⟩ := pm_if hf
    refine pm_putR C dX1_body_245 flX1_260 rfl rfl k91 ?_
    have hf := Option.some.inj hf
    subst hf
    have hi := Option.some.inj (show some _ = some r from hi)
    subst hi
    exact pm_vret C X dX1_body_248 rfl kc1 kc2 q
set_option maxHeartbeats 4000000 in
set_option maxRecDepth 100000 in
theorem ctX1_body {l : Launch} {G : pm_Gl} {h : pm_H} {a0 : Nat} {p1 : Int32} {r : pm_H} {Qr : Option Value → pm_H → Prop} (hf : fX1_body h a0 p1 = some r) (q : Qr none r) : pm_Ct l G mX1_body [.ref a0, .int p1] h (pm_sz r - pm_sz h) (pm_us r - pm_us h) Qr := by
  refine pm_body pnX1 (Nat.le_of_ble_eq_true rfl) (fun g C X => ?_)
  have C : pm_C g cX1_body RX1 := C
  show pm_G g 0 [(0, .ref a0), (1, .int p1)] [] h 0 0
  unfold fX1_body at hf
  obtain ⟨n, hn⟩ := pm_lim_iter hf
  exact pa_start (pm_sub [0, 1] rfl ((lpX1_body C X q n).1 a0 p1 h (pm_Le.rf h) hn))
