theorem dX16_checksElement_0 : decode cX16_checksElement 0 = .ok (.aload_n 0, 1) := by decide +kernel
theorem dX16_checksElement_1 : decode cX16_checksElement 1 = .ok (.getfield 221, 3) := by decide +kernel
theorem dX16_checksElement_4 : decode cX16_checksElement 4 = .ok (.getfield 302, 3) := by decide +kernel
theorem dX16_checksElement_7 : decode cX16_checksElement 7 = .ok (.bipush 9, 2) := by decide +kernel
theorem dX16_checksElement_9 : decode cX16_checksElement 9 = .ok (.iaload, 1) := by decide +kernel
theorem dX16_checksElement_10 : decode cX16_checksElement 10 = .ok (.istore_n 2, 1) := by decide +kernel
theorem dX16_checksElement_11 : decode cX16_checksElement 11 = .ok (.aload_n 0, 1) := by decide +kernel
theorem dX16_checksElement_12 : decode cX16_checksElement 12 = .ok (.getfield 221, 3) := by decide +kernel
theorem dX16_checksElement_15 : decode cX16_checksElement 15 = .ok (.getfield 498, 3) := by decide +kernel
theorem dX16_checksElement_18 : decode cX16_checksElement 18 = .ok (.iload_n 1, 1) := by decide +kernel
theorem dX16_checksElement_19 : decode cX16_checksElement 19 = .ok (.baload, 1) := by decide +kernel
theorem dX16_checksElement_20 : decode cX16_checksElement 20 = .ok (.ifCond .ne 61, 3) := by decide +kernel
theorem dX16_checksElement_23 : decode cX16_checksElement 23 = .ok (.aload_n 0, 1) := by decide +kernel
theorem dX16_checksElement_24 : decode cX16_checksElement 24 = .ok (.aload_n 0, 1) := by decide +kernel
theorem dX16_checksElement_25 : decode cX16_checksElement 25 = .ok (.getfield 221, 3) := by decide +kernel
theorem dX16_checksElement_28 : decode cX16_checksElement 28 = .ok (.getfield 504, 3) := by decide +kernel
theorem dX16_checksElement_31 : decode cX16_checksElement 31 = .ok (.iload_n 1, 1) := by decide +kernel
theorem dX16_checksElement_32 : decode cX16_checksElement 32 = .ok (.iaload, 1) := by decide +kernel
theorem dX16_checksElement_33 : decode cX16_checksElement 33 = .ok (.putfield 594, 3) := by decide +kernel
theorem dX16_checksElement_36 : decode cX16_checksElement 36 = .ok (.iconst 0, 1) := by decide +kernel
theorem dX16_checksElement_37 : decode cX16_checksElement 37 = .ok (.istore_n 3, 1) := by decide +kernel
theorem dX16_checksElement_38 : decode cX16_checksElement 38 = .ok (.iload_n 3, 1) := by decide +kernel
theorem dX16_checksElement_39 : decode cX16_checksElement 39 = .ok (.aload_n 0, 1) := by decide +kernel
theorem dX16_checksElement_40 : decode cX16_checksElement 40 = .ok (.getfield 221, 3) := by decide +kernel
theorem dX16_checksElement_43 : decode cX16_checksElement 43 = .ok (.getfield 507, 3) := by decide +kernel
theorem dX16_checksElement_46 : decode cX16_checksElement 46 = .ok (.iload_n 1, 1) := by decide +kernel
theorem dX16_checksElement_47 : decode cX16_checksElement 47 = .ok (.iaload, 1) := by decide +kernel
theorem dX16_checksElement_48 : decode cX16_checksElement 48 = .ok (.if_icmp .ge 33, 3) := by decide +kernel
theorem dX16_checksElement_51 : decode cX16_checksElement 51 = .ok (.aload_n 0, 1) := by decide +kernel
theorem dX16_checksElement_52 : decode cX16_checksElement 52 = .ok (.invokevirtual 603, 3) := by decide +kernel
theorem dX16_checksElement_55 : decode cX16_checksElement 55 = .ok (.aload_n 0, 1) := by decide +kernel
theorem dX16_checksElement_56 : decode cX16_checksElement 56 = .ok (.getfield 221, 3) := by decide +kernel
theorem dX16_checksElement_59 : decode cX16_checksElement 59 = .ok (.iconst 0, 1) := by decide +kernel
theorem dX16_checksElement_60 : decode cX16_checksElement 60 = .ok (.invokevirtual 615, 3) := by decide +kernel
theorem dX16_checksElement_63 : decode cX16_checksElement 63 = .ok (.i2l, 1) := by decide +kernel
theorem dX16_checksElement_64 : decode cX16_checksElement 64 = .ok (.lcmp, 1) := by decide +kernel
theorem dX16_checksElement_65 : decode cX16_checksElement 65 = .ok (.ifCond .lt 10, 3) := by decide +kernel
theorem dX16_checksElement_68 : decode cX16_checksElement 68 = .ok (.aload_n 0, 1) := by decide +kernel
theorem dX16_checksElement_69 : decode cX16_checksElement 69 = .ok (.bipush 28, 2) := by decide +kernel
theorem dX16_checksElement_71 : decode cX16_checksElement 71 = .ok (.iload_n 2, 1) := by decide +kernel
theorem dX16_checksElement_72 : decode cX16_checksElement 72 = .ok (.invokevirtual 257, 3) := by decide +kernel
theorem dX16_checksElement_75 : decode cX16_checksElement 75 = .ok (.iinc 3 1, 3) := by decide +kernel
theorem dX16_checksElement_78 : decode cX16_checksElement 78 = .ok (.goto (-40), 3) := by decide +kernel
theorem dX16_checksElement_81 : decode cX16_checksElement 81 = .ok (.aload_n 0, 1) := by decide +kernel
theorem dX16_checksElement_82 : decode cX16_checksElement 82 = .ok (.getfield 221, 3) := by decide +kernel
theorem dX16_checksElement_85 : decode cX16_checksElement 85 = .ok (.getfield 489, 3) := by decide +kernel
theorem dX16_checksElement_88 : decode cX16_checksElement 88 = .ok (.iload_n 1, 1) := by decide +kernel
theorem dX16_checksElement_89 : decode cX16_checksElement 89 = .ok (.iaload, 1) := by decide +kernel
theorem dX16_checksElement_90 : decode cX16_checksElement 90 = .ok (.ifCond .ne 70, 3) := by decide +kernel
theorem dX16_checksElement_93 : decode cX16_checksElement 93 = .ok (.aload_n 0, 1) := by decide +kernel
theorem dX16_checksElement_94 : decode cX16_checksElement 94 = .ok (.getfield 221, 3) := by decide +kernel
theorem dX16_checksElement_97 : decode cX16_checksElement 97 = .ok (.getfield 492, 3) := by decide +kernel
theorem dX16_checksElement_100 : decode cX16_checksElement 100 = .ok (.iload_n 1, 1) := by decide +kernel
theorem dX16_checksElement_101 : decode cX16_checksElement 101 = .ok (.laload, 1) := by decide +kernel
theorem dX16_checksElement_102 : decode cX16_checksElement 102 = .ok (.lstore_n 3, 1) := by decide +kernel
theorem dX16_checksElement_103 : decode cX16_checksElement 103 = .ok (.lload_n 3, 1) := by decide +kernel
theorem dX16_checksElement_104 : decode cX16_checksElement 104 = .ok (.aload_n 0, 1) := by decide +kernel
theorem dX16_checksElement_105 : decode cX16_checksElement 105 = .ok (.getfield 221, 3) := by decide +kernel
theorem dX16_checksElement_108 : decode cX16_checksElement 108 = .ok (.iconst 1, 1) := by decide +kernel
theorem dX16_checksElement_109 : decode cX16_checksElement 109 = .ok (.invokevirtual 615, 3) := by decide +kernel
theorem dX16_checksElement_112 : decode cX16_checksElement 112 = .ok (.i2l, 1) := by decide +kernel
theorem dX16_checksElement_113 : decode cX16_checksElement 113 = .ok (.lcmp, 1) := by decide +kernel
theorem dX16_checksElement_114 : decode cX16_checksElement 114 = .ok (.ifCond .ge 24, 3) := by decide +kernel
theorem dX16_checksElement_117 : decode cX16_checksElement 117 = .ok (.aload_n 0, 1) := by decide +kernel
theorem dX16_checksElement_118 : decode cX16_checksElement 118 = .ok (.getfield 221, 3) := by decide +kernel
theorem dX16_checksElement_121 : decode cX16_checksElement 121 = .ok (.lload_n 3, 1) := by decide +kernel
theorem dX16_checksElement_122 : decode cX16_checksElement 122 = .ok (.l2i, 1) := by decide +kernel
theorem dX16_checksElement_123 : decode cX16_checksElement 123 = .ok (.invokevirtual 661, 3) := by decide +kernel
theorem dX16_checksElement_126 : decode cX16_checksElement 126 = .ok (.aload_n 0, 1) := by decide +kernel
theorem dX16_checksElement_127 : decode cX16_checksElement 127 = .ok (.getfield 221, 3) := by decide +kernel
theorem dX16_checksElement_130 : decode cX16_checksElement 130 = .ok (.getfield 501, 3) := by decide +kernel
theorem dX16_checksElement_133 : decode cX16_checksElement 133 = .ok (.iload_n 1, 1) := by decide +kernel
theorem dX16_checksElement_134 : decode cX16_checksElement 134 = .ok (.iaload, 1) := by decide +kernel
theorem dX16_checksElement_135 : decode cX16_checksElement 135 = .ok (.if_icmp .eq 10, 3) := by decide +kernel
theorem dX16_checksElement_138 : decode cX16_checksElement 138 = .ok (.aload_n 0, 1) := by decide +kernel
theorem dX16_checksElement_139 : decode cX16_checksElement 139 = .ok (.bipush 28, 2) := by decide +kernel
theorem dX16_checksElement_141 : decode cX16_checksElement 141 = .ok (.iload_n 2, 1) := by decide +kernel
theorem dX16_checksElement_142 : decode cX16_checksElement 142 = .ok (.invokevirtual 257, 3) := by decide +kernel
theorem dX16_checksElement_145 : decode cX16_checksElement 145 = .ok (.aload_n 0, 1) := by decide +kernel
theorem dX16_checksElement_146 : decode cX16_checksElement 146 = .ok (.aload_n 0, 1) := by decide +kernel
theorem dX16_checksElement_147 : decode cX16_checksElement 147 = .ok (.getfield 221, 3) := by decide +kernel
theorem dX16_checksElement_150 : decode cX16_checksElement 150 = .ok (.getfield 495, 3) := by decide +kernel
theorem dX16_checksElement_153 : decode cX16_checksElement 153 = .ok (.iload_n 1, 1) := by decide +kernel
theorem dX16_checksElement_154 : decode cX16_checksElement 154 = .ok (.iaload, 1) := by decide +kernel
theorem dX16_checksElement_155 : decode cX16_checksElement 155 = .ok (.bipush 127, 2) := by decide +kernel
theorem dX16_checksElement_157 : decode cX16_checksElement 157 = .ok (.invokevirtual 627, 3) := by decide +kernel
theorem dX16_checksElement_160 : decode cX16_checksElement 160 = .ok (.aload_n 0, 1) := by decide +kernel
theorem dX16_checksElement_161 : decode cX16_checksElement 161 = .ok (.aload_n 0, 1) := by decide +kernel
theorem dX16_checksElement_162 : decode cX16_checksElement 162 = .ok (.getfield 221, 3) := by decide +kernel
theorem dX16_checksElement_165 : decode cX16_checksElement 165 = .ok (.getfield 504, 3) := by decide +kernel
theorem dX16_checksElement_168 : decode cX16_checksElement 168 = .ok (.iload_n 1, 1) := by decide +kernel
theorem dX16_checksElement_169 : decode cX16_checksElement 169 = .ok (.iaload, 1) := by decide +kernel
theorem dX16_checksElement_170 : decode cX16_checksElement 170 = .ok (.putfield 594, 3) := by decide +kernel
theorem dX16_checksElement_173 : decode cX16_checksElement 173 = .ok (.iconst 0, 1) := by decide +kernel
theorem dX16_checksElement_174 : decode cX16_checksElement 174 = .ok (.istore_n 3, 1) := by decide +kernel
theorem dX16_checksElement_175 : decode cX16_checksElement 175 = .ok (.iload_n 3, 1) := by decide +kernel
theorem dX16_checksElement_176 : decode cX16_checksElement 176 = .ok (.aload_n 0, 1) := by decide +kernel
theorem dX16_checksElement_177 : decode cX16_checksElement 177 = .ok (.getfield 221, 3) := by decide +kernel
theorem dX16_checksElement_180 : decode cX16_checksElement 180 = .ok (.getfield 507, 3) := by decide +kernel
theorem dX16_checksElement_183 : decode cX16_checksElement 183 = .ok (.iload_n 1, 1) := by decide +kernel
theorem dX16_checksElement_184 : decode cX16_checksElement 184 = .ok (.iaload, 1) := by decide +kernel
theorem dX16_checksElement_185 : decode cX16_checksElement 185 = .ok (.if_icmp .ge 38, 3) := by decide +kernel
theorem dX16_checksElement_188 : decode cX16_checksElement 188 = .ok (.aload_n 0, 1) := by decide +kernel
theorem dX16_checksElement_189 : decode cX16_checksElement 189 = .ok (.getfield 221, 3) := by decide +kernel
theorem dX16_checksElement_192 : decode cX16_checksElement 192 = .ok (.getfield 498, 3) := by decide +kernel
theorem dX16_checksElement_195 : decode cX16_checksElement 195 = .ok (.iload_n 1, 1) := by decide +kernel
theorem dX16_checksElement_196 : decode cX16_checksElement 196 = .ok (.baload, 1) := by decide +kernel
theorem dX16_checksElement_197 : decode cX16_checksElement 197 = .ok (.ifCond .eq 26, 3) := by decide +kernel
theorem dX16_checksElement_200 : decode cX16_checksElement 200 = .ok (.aload_n 0, 1) := by decide +kernel
theorem dX16_checksElement_201 : decode cX16_checksElement 201 = .ok (.aload_n 0, 1) := by decide +kernel
theorem dX16_checksElement_202 : decode cX16_checksElement 202 = .ok (.getfield 594, 3) := by decide +kernel
theorem dX16_checksElement_205 : decode cX16_checksElement 205 = .ok (.aload_n 0, 1) := by decide +kernel
theorem dX16_checksElement_206 : decode cX16_checksElement 206 = .ok (.getfield 221, 3) := by decide +kernel
theorem dX16_checksElement_209 : decode cX16_checksElement 209 = .ok (.getfield 501, 3) := by decide +kernel
theorem dX16_checksElement_212 : decode cX16_checksElement 212 = .ok (.iload_n 1, 1) := by decide +kernel
theorem dX16_checksElement_213 : decode cX16_checksElement 213 = .ok (.iaload, 1) := by decide +kernel
theorem dX16_checksElement_214 : decode cX16_checksElement 214 = .ok (.invokevirtual 627, 3) := by decide +kernel
theorem dX16_checksElement_217 : decode cX16_checksElement 217 = .ok (.iinc 3 1, 3) := by decide +kernel
theorem dX16_checksElement_220 : decode cX16_checksElement 220 = .ok (.goto (-45), 3) := by decide +kernel
theorem dX16_checksElement_223 : decode cX16_checksElement 223 = .ok (.return_, 1) := by decide +kernel
noncomputable def tX16_checksElement_81 (x0 : Nat) (x1 : Int32) (x2 : Int32) (h : pm_H) : Option (((Nat × Int32 × Int32 × pm_H) ⊕ (Nat × Int32 × Int32 × Int32 × pm_H) ⊕ (Nat × Int32 × Int32 × pm_H)) ⊕ ((Nat × pm_H) ⊕ pm_H)) := if pm_kd h x0 = 16 then (pm_R h x0 10).bind fun v23 => if pm_kd h v23 = 14 then (pm_R h v23 35).bind fun v26 => if pm_kd h v26 = 34 then if pm_in x1 (pm_ln h v26) then if (pm_I h v26 x1.toNatClampNeg) = 0 then ((pm_R h v23 36).bind fun v37 => if pm_kd h v37 = 35 then if pm_in x1 (pm_ln h v37) then pm_let (pm_L h v37 x1.toNatClampNeg) fun y41 => (fX14_all h v23 1).bind fun v43 => if v43.toInt64 ≤ y41 then ((fX16_stops h x0 28 x2).bind fun v46 => pt_s v46 fun w48 => if pm_kd w48 x0 = 16 then (pm_R w48 x0 10).bind fun v51 => if pm_kd w48 v51 = 14 then (pm_R w48 v51 37).bind fun v54 => if pm_kd w48 v54 = 34 then if pm_in x1 (pm_ln w48 v54) then (fX16_constantly w48 x0 (pm_I w48 v54 x1.toNatClampNeg) 127).bind fun v58 => pt_s v58 fun w60 => if pm_kd w60 x0 = 16 then (pm_R w60 x0 10).bind fun v63 => if pm_kd w60 v63 = 14 then (pm_R w60 v63 41).bind fun v66 => if pm_kd w60 v66 = 34 then if pm_in x1 (pm_ln w60 v66) then pm_let (pm_I w60 v66 x1.toNatClampNeg) fun y70 => some (.inl (.inr (.inr ((x0, x1, 0, pm_setI w60 x0 19 y70))))) else none else none else none else none else none else none else none else none) else ((fX14_typeOfTable h v23 y41.toInt32).bind fun v72 => (pm_R h v23 38).bind fun v74 => if pm_kd h v74 = 34 then if pm_in x1 (pm_ln h v74) then if v72 = (pm_I h v74 x1.toNatClampNeg) then ((pm_R h v23 37).bind fun v79 => if pm_kd h v79 = 34 then if pm_in x1 (pm_ln h v79) then (fX16_constantly h x0 (pm_I h v79 x1.toNatClampNeg) 127).bind fun v83 => pt_s v83 fun w85 => if pm_kd w85 x0 = 16 then (pm_R w85 x0 10).bind fun v88 => if pm_kd w85 v88 = 14 then (pm_R w85 v88 41).bind fun v91 => if pm_kd w85 v91 = 34 then if pm_in x1 (pm_ln w85 v91) then pm_let (pm_I w85 v91 x1.toNatClampNeg) fun y95 => some (.inl (.inr (.inr ((x0, x1, 0, pm_setI w85 x0 19 y95))))) else none else none else none else none else none else none) else ((fX16_stops h x0 28 x2).bind fun v97 => pt_s v97 fun w99 => if pm_kd w99 x0 = 16 then (pm_R w99 x0 10).bind fun v102 => if pm_kd w99 v102 = 14 then (pm_R w99 v102 37).bind fun v105 => if pm_kd w99 v105 = 34 then if pm_in x1 (pm_ln w99 v105) then (fX16_constantly w99 x0 (pm_I w99 v105 x1.toNatClampNeg) 127).bind fun v109 => pt_s v109 fun w111 => if pm_kd w111 x0 = 16 then (pm_R w111 x0 10).bind fun v114 => if pm_kd w111 v114 = 14 then (pm_R w111 v114 41).bind fun v117 => if pm_kd w111 v117 = 34 then if pm_in x1 (pm_ln w111 v117) then pm_let (pm_I w111 v117 x1.toNatClampNeg) fun y121 => some (.inl (.inr (.inr ((x0, x1, 0, pm_setI w111 x0 19 y121))))) else none else none else none else none else none else none else none else none) else none else none) else none else none) else ((pm_R h v23 41).bind fun v31 => if pm_kd h v31 = 34 then if pm_in x1 (pm_ln h v31) then pm_let (pm_I h v31 x1.toNatClampNeg) fun y35 => some (.inl (.inr (.inr ((x0, x1, 0, pm_setI h x0 19 y35))))) else none else none) else none else none else none else none
noncomputable def tX16_checksElement_38 (x0 : Nat) (x1 : Int32) (x2 : Int32) (x3 : Int32) (h : pm_H) : Option (((Nat × Int32 × Int32 × pm_H) ⊕ (Nat × Int32 × Int32 × Int32 × pm_H) ⊕ (Nat × Int32 × Int32 × pm_H)) ⊕ ((Nat × pm_H) ⊕ pm_H)) := if pm_kd h x0 = 16 then (pm_R h x0 10).bind fun v124 => if pm_kd h v124 = 14 then (pm_R h v124 40).bind fun v127 => if pm_kd h v127 = 34 then if pm_in x1 (pm_ln h v127) then if (pm_I h v127 x1.toNatClampNeg) ≤ x3 then (some (.inl (.inl ((x0, x1, x2, h))))) else ((fX16_word h x0).bind fun v132 => if pm_kd v132.2 x0 = 16 then (pm_R v132.2 x0 10).bind fun v135 => if pm_kd v132.2 v135 = 14 then (fX14_all v132.2 v135 0).bind fun v138 => if v132.1 < v138.toInt64 then (pm_let (x3 + 1) fun y141 => some (.inl (.inr (.inl ((x0, x1, x2, y141, v132.2)))))) else ((fX16_stops v132.2 x0 28 x2).bind fun v143 => pt_s v143 fun w145 => pm_let (x3 + 1) fun y147 => some (.inl (.inr (.inl ((x0, x1, x2, y147, w145)))))) else none else none) else none else none else none else none
noncomputable def tX16_checksElement_175 (x0 : Nat) (x1 : Int32) (x3 : Int32) (h : pm_H) : Option (((Nat × Int32 × Int32 × pm_H) ⊕ (Nat × Int32 × Int32 × Int32 × pm_H) ⊕ (Nat × Int32 × Int32 × pm_H)) ⊕ ((Nat × pm_H) ⊕ pm_H)) := if pm_kd h x0 = 16 then (pm_R h x0 10).bind fun v150 => if pm_kd h v150 = 14 then (pm_R h v150 40).bind fun v153 => if pm_kd h v153 = 34 then if pm_in x1 (pm_ln h v153) then if (pm_I h v153 x1.toNatClampNeg) ≤ x3 then (some (.inr (.inr (h)))) else ((pm_R h v150 39).bind fun v158 => if pm_kd h v158 = 32 then if pm_in x1 (pm_ln h v158) then if (pm_I h v158 x1.toNatClampNeg) = 0 then (some (.inr (.inr (h)))) else ((pm_R h v150 38).bind fun v163 => if pm_kd h v163 = 34 then if pm_in x1 (pm_ln h v163) then (fX16_constantly h x0 (pm_I h x0 19) (pm_I h v163 x1.toNatClampNeg)).bind fun v167 => pt_s v167 fun w169 => pm_let (x3 + 1) fun y171 => some (.inl (.inr (.inr ((x0, x1, y171, w169))))) else none else none) else none else none) else none else none else none else none
noncomputable def sX16_checksElement : ((Nat × Int32 × Int32 × pm_H) ⊕ (Nat × Int32 × Int32 × Int32 × pm_H) ⊕ (Nat × Int32 × Int32 × pm_H)) → Option (((Nat × Int32 × Int32 × pm_H) ⊕ (Nat × Int32 × Int32 × Int32 × pm_H) ⊕ (Nat × Int32 × Int32 × pm_H)) ⊕ ((Nat × pm_H) ⊕ pm_H)) := fun z => match z with
  | .inl (x0, x1, x2, h) => tX16_checksElement_81 x0 x1 x2 h
  | .inr (.inl (x0, x1, x2, x3, h)) => tX16_checksElement_38 x0 x1 x2 x3 h
  | .inr (.inr (x0, x1, x3, h)) => tX16_checksElement_175 x0 x1 x3 h
noncomputable def fX16_checksElement (h : pm_H) (a0 : Nat) (p1 : Int32) : Option ((Nat × pm_H) ⊕ pm_H) := if pm_kd h a0 = 16 then (pm_R h a0 10).bind fun v2 => if pm_kd h v2 = 14 then (pm_R h v2 2).bind fun v5 => if pm_kd h v5 = 34 then if pm_in 9 (pm_ln h v5) then pm_let (pm_I h v5 (9 : Int32).toNatClampNeg) fun y9 => (pm_R h v2 39).bind fun v11 => if pm_kd h v11 = 32 then if pm_in p1 (pm_ln h v11) then if (pm_I h v11 p1.toNatClampNeg) = 0 then ((pm_R h v2 41).bind fun v16 => if pm_kd h v16 = 34 then if pm_in p1 (pm_ln h v16) then pm_let (pm_I h v16 p1.toNatClampNeg) fun y20 => pm_lim sX16_checksElement (.inr (.inl ((a0, p1, y9, 0, pm_setI h a0 19 y20)))) else none else none) else (pm_lim sX16_checksElement (.inl ((a0, p1, y9, h)))) else none else none else none else none else none else none
set_option maxHeartbeats 4000000 in
set_option maxRecDepth 100000 in
theorem lpX16_checksElement {g : pm_Gm} {l : Launch} {G : pm_Gl} {Qr : Option Value → pm_H → Prop} {Qt : Nat → pm_H → Prop} (C : pm_C g cX16_checksElement RX16) (X : pm_XT g l G mX16_checksElement 0 0 Qr Qt) {r : ((Nat × pm_H) ⊕ pm_H)} (q : pt_eV Qr Qt r) : ∀ n : Nat, (∀ (x0 : Nat) (x1 : Int32) (x2 : Int32) (h : pm_H), pm_iter sX16_checksElement n (.inl (x0, x1, x2, h)) = some r → pm_G g 81 [(0, .ref x0), (1, .int x1), (2, .int x2)] [] h 0 0) ∧ (∀ (x0 : Nat) (x1 : Int32) (x2 : Int32) (x3 : Int32) (h : pm_H), pm_iter sX16_checksElement n (.inr (.inl (x0, x1, x2, x3, h))) = some r → pm_G g 38 [(0, .ref x0), (1, .int x1), (2, .int x2), (3, .int x3)] [] h 0 0) ∧ (∀ (x0 : Nat) (x1 : Int32) (x3 : Int32) (h : pm_H), pm_iter sX16_checksElement n (.inr (.inr (x0, x1, x3, h))) = some r → pm_G g 175 [(0, .ref x0), (1, .int x1), (3, .int x3)] [] h 0 0) := by
  intro n
  induction n with
  | zero => exact ⟨fun _ _ _ _ hf => (by cases hf), fun _ _ _ _ _ hf => (by cases hf), fun _ _ _ _ hf => (by cases hf)⟩
  | succ n ih =>
    refine ⟨fun x0 x1 x2 h hf => ?_, ?_⟩
    · obtain ⟨y, hf, hi⟩ := pm_iter_s hf
      have hf : tX16_checksElement_81 x0 x1 x2 h = some y := hf
      unfold tX16_checksElement_81 at hf
      refine pm_aload_n C dX16_checksElement_81 rfl rfl ?_
      obtain ⟨k22, hf⟩ := pm_if hf
      obtain ⟨v23, e24, hf⟩ := pm_bd hf
      refine pm_getR C dX16_checksElement_82 flX16_221 rfl k22 e24 ?_
      obtain ⟨k25, hf⟩ := pm_if hf
      obtain ⟨v26, e27, hf⟩ := pm_bd hf
      refine pm_getR C dX16_checksElement_85 flX16_489 rfl k25 e27 ?_
      refine pm_iload_n C dX16_checksElement_88 rfl rfl ?_
      obtain ⟨k28, hf⟩ := pm_if hf
      obtain ⟨u29, hf⟩ := pm_if hf
      refine pm_iald C dX16_checksElement_89 k28 u29 rfl ?_
      refine pm_if_ne (tgt := 160) C dX16_checksElement_90 (by decide) (fun c30 => ?_) (fun c30 => ?_)
      · have hf := pm_ie hf c30
        refine pm_aload_n C dX16_checksElement_160 rfl rfl ?_
        refine pm_aload_n C dX16_checksElement_161 rfl rfl ?_
        refine pm_getR C dX16_checksElement_162 flX16_221 rfl k22 e24 ?_
        obtain ⟨v31, e32, hf⟩ := pm_bd hf
        refine pm_getR C dX16_checksElement_165 flX16_504 rfl k25 e32 ?_
        refine pm_iload_n C dX16_checksElement_168 rfl rfl ?_
        obtain ⟨k33, hf⟩ := pm_if hf
        obtain ⟨u34, hf⟩ := pm_if hf
        refine pm_iald C dX16_checksElement_169 k33 u34 rfl ?_
        obtain ⟨y35, e36, hf⟩ := pm_lt hf
        refine pm_topI e36 ?_
        refine pm_putI C dX16_checksElement_170 flX16_594 rfl rfl k22 rfl rfl ?_
        refine pm_iconst (v := 0) C dX16_checksElement_173 (by decide) ?_
        refine pm_istore_n (lv' := [(3, .int 0), (0, .ref x0), (1, .int x1), (2, .int x2)]) C dX16_checksElement_174 rfl (pt_nl X (by decide)) rfl ?_
        cases hf
        exact pm_sub [1, 2, 0] rfl (ih.2.2 x0 x1 0 (pm_setI h x0 19 y35) hi)
      · have hf := pm_it hf c30
        refine pm_aload_n C dX16_checksElement_93 rfl rfl ?_
        refine pm_getR C dX16_checksElement_94 flX16_221 rfl k22 e24 ?_
        obtain ⟨v37, e38, hf⟩ := pm_bd hf
        refine pm_getR C dX16_checksElement_97 flX16_492 rfl k25 e38 ?_
        refine pm_iload_n C dX16_checksElement_100 rfl rfl ?_
        obtain ⟨k39, hf⟩ := pm_if hf
        obtain ⟨u40, hf⟩ := pm_if hf
        refine pm_lald C dX16_checksElement_101 k39 u40 rfl ?_
        obtain ⟨y41, e42, hf⟩ := pm_lt hf
        refine pm_topL e42 ?_
        refine pm_lstore_n (lv' := [(3, .long y41), (0, .ref x0), (1, .int x1), (2, .int x2)]) C dX16_checksElement_102 rfl (pt_nl X (by decide)) rfl ?_
        refine pm_lload_n C dX16_checksElement_103 rfl rfl ?_
        refine pm_aload_n C dX16_checksElement_104 rfl rfl ?_
        refine pm_getR C dX16_checksElement_105 flX16_221 rfl k22 e24 ?_
        refine pm_iconst (v := 1) C dX16_checksElement_108 (by decide) ?_
        obtain ⟨v43, e44, hf⟩ := pm_bd hf
        refine pt_callV (as := [.int 1]) (st := [.long y41]) C X dX16_checksElement_109 lnX16_615 myX14_all viX14_all ⟨by decide, by decide⟩ rfl rfl k25 (Nat.le_of_ble_eq_true rfl) (Nat.le_refl _) (Nat.le_refl _) (ctX14_all e44 ?_)
        show pm_G g 112 [(3, .long y41), (0, .ref x0), (1, .int x1), (2, .int x2)] [.int v43, .long y41] h 0 0
        refine pm_i2l C dX16_checksElement_112 ?_
        refine pm_lcmp C dX16_checksElement_113 ?_
        refine pm_if_ge (tgt := 138) C dX16_checksElement_114 (by decide) (fun c45 => ?_) (fun c45 => ?_)
        · have hf := pm_it hf ((pm_lg_ge _ _).mp c45)
          refine pm_aload_n C dX16_checksElement_138 rfl rfl ?_
          refine pm_bipush (v := 28) C dX16_checksElement_139 (by decide) ?_
          refine pm_iload_n C dX16_checksElement_141 rfl rfl ?_
          obtain ⟨v46, e47, hf⟩ := pm_bd hf
          refine pt_callVT (as := [.int 28, .int x2]) (st := []) C X dX16_checksElement_142 ltX16_257 myX16_stops viX16_stops ⟨by decide, by decide⟩ rfl rfl k22 (Nat.le_of_ble_eq_true rfl) (Nat.le_refl _) (Nat.le_refl _) (ctX16_stops e47 ?_)
          rcases v46 with z49 | w48
          · have hf := pt_sl hf
            cases hf
            cases hi
            exact q
          have hf := pt_sr hf
          show pm_G g 145 [(3, .long y41), (0, .ref x0), (1, .int x1), (2, .int x2)] [] w48 0 0
          refine pm_aload_n C dX16_checksElement_145 rfl rfl ?_
          refine pm_aload_n C dX16_checksElement_146 rfl rfl ?_
          obtain ⟨k50, hf⟩ := pm_if hf
          obtain ⟨v51, e52, hf⟩ := pm_bd hf
          refine pm_getR C dX16_checksElement_147 flX16_221 rfl k50 e52 ?_
          obtain ⟨k53, hf⟩ := pm_if hf
          obtain ⟨v54, e55, hf⟩ := pm_bd hf
          refine pm_getR C dX16_checksElement_150 flX16_495 rfl k53 e55 ?_
          refine pm_iload_n C dX16_checksElement_153 rfl rfl ?_
          obtain ⟨k56, hf⟩ := pm_if hf
          obtain ⟨u57, hf⟩ := pm_if hf
          refine pm_iald C dX16_checksElement_154 k56 u57 rfl ?_
          refine pm_bipush (v := 127) C dX16_checksElement_155 (by decide) ?_
          obtain ⟨v58, e59, hf⟩ := pm_bd hf
          refine pt_callVT (as := [.int (pm_I w48 v54 x1.toNatClampNeg), .int 127]) (st := []) C X dX16_checksElement_157 ltX16_627 myX16_constantly viX16_constantly ⟨by decide, by decide⟩ rfl rfl k50 (Nat.le_of_ble_eq_true rfl) (Nat.le_refl _) (Nat.le_refl _) (ctX16_constantly e59 ?_)
          rcases v58 with z61 | w60
          · have hf := pt_sl hf
            cases hf
            cases hi
            exact q
          have hf := pt_sr hf
          show pm_G g 160 [(3, .long y41), (0, .ref x0), (1, .int x1), (2, .int x2)] [] w60 0 0
          refine pm_aload_n C dX16_checksElement_160 rfl rfl ?_
          refine pm_aload_n C dX16_checksElement_161 rfl rfl ?_
          obtain ⟨k62, hf⟩ := pm_if hf
          obtain ⟨v63, e64, hf⟩ := pm_bd hf
          refine pm_getR C dX16_checksElement_162 flX16_221 rfl k62 e64 ?_
          obtain ⟨k65, hf⟩ := pm_if hf
          obtain ⟨v66, e67, hf⟩ := pm_bd hf
          refine pm_getR C dX16_checksElement_165 flX16_504 rfl k65 e67 ?_
          refine pm_iload_n C dX16_checksElement_168 rfl rfl ?_
          obtain ⟨k68, hf⟩ := pm_if hf
          obtain ⟨u69, hf⟩ := pm_if hf
          refine pm_iald C dX16_checksElement_169 k68 u69 rfl ?_
          obtain ⟨y70, e71, hf⟩ := pm_lt hf
          refine pm_topI e71 ?_
          refine pm_putI C dX16_checksElement_170 flX16_594 rfl rfl k62 rfl rfl ?_
          refine pm_iconst (v := 0) C dX16_checksElement_173 (by decide) ?_
          refine pm_istore_n (lv' := [(3, .int 0), (0, .ref x0), (1, .int x1), (2, .int x2)]) C dX16_checksElement_174 rfl (pt_nl X (by decide)) rfl ?_
          cases hf
          exact pm_sub [1, 2, 0] rfl (ih.2.2 x0 x1 0 (pm_setI w60 x0 19 y70) hi)
        · have hf := pm_ie hf ((fun z => c45 ((pm_lg_ge _ _).mpr z)))
          refine pm_aload_n C dX16_checksElement_117 rfl rfl ?_
          refine pm_getR C dX16_checksElement_118 flX16_221 rfl k22 e24 ?_
          refine pm_lload_n C dX16_checksElement_121 rfl rfl ?_
          refine pm_l2i C dX16_checksElement_122 ?_
          obtain ⟨v72, e73, hf⟩ := pm_bd hf
          refine pt_callV (as := [.int y41.toInt32]) (st := []) C X dX16_checksElement_123 lnX16_661 myX14_typeOfTable viX14_typeOfTable ⟨by decide, by decide⟩ rfl rfl k25 (Nat.le_of_ble_eq_true rfl) (Nat.le_refl _) (Nat.le_refl _) (ctX14_typeOfTable e73 ?_)
          show pm_G g 126 [(3, .long y41), (0, .ref x0), (1, .int x1), (2, .int x2)] [.int v72] h 0 0
          refine pm_aload_n C dX16_checksElement_126 rfl rfl ?_
          refine pm_getR C dX16_checksElement_127 flX16_221 rfl k22 e24 ?_
          obtain ⟨v74, e75, hf⟩ := pm_bd hf
          refine pm_getR C dX16_checksElement_130 flX16_501 rfl k25 e75 ?_
          refine pm_iload_n C dX16_checksElement_133 rfl rfl ?_
          obtain ⟨k76, hf⟩ := pm_if hf
          obtain ⟨u77, hf⟩ := pm_if hf
          refine pm_iald C dX16_checksElement_134 k76 u77 rfl ?_
          refine pm_icmp_eq (tgt := 145) C dX16_checksElement_135 (by decide) (fun c78 => ?_) (fun c78 => ?_)
          · have hf := pm_it hf c78
            refine pm_aload_n C dX16_checksElement_145 rfl rfl ?_
            refine pm_aload_n C dX16_checksElement_146 rfl rfl ?_
            refine pm_getR C dX16_checksElement_147 flX16_221 rfl k22 e24 ?_
            obtain ⟨v79, e80, hf⟩ := pm_bd hf
            refine pm_getR C dX16_checksElement_150 flX16_495 rfl k25 e80 ?_
            refine pm_iload_n C dX16_checksElement_153 rfl rfl ?_
            obtain ⟨k81, hf⟩ := pm_if hf
            obtain ⟨u82, hf⟩ := pm_if hf
            refine pm_iald C dX16_checksElement_154 k81 u82 rfl ?_
            refine pm_bipush (v := 127) C dX16_checksElement_155 (by decide) ?_
            obtain ⟨v83, e84, hf⟩ := pm_bd hf
            refine pt_callVT (as := [.int (pm_I h v79 x1.toNatClampNeg), .int 127]) (st := []) C X dX16_checksElement_157 ltX16_627 myX16_constantly viX16_constantly ⟨by decide, by decide⟩ rfl rfl k22 (Nat.le_of_ble_eq_true rfl) (Nat.le_refl _) (Nat.le_refl _) (ctX16_constantly e84 ?_)
            rcases v83 with z86 | w85
            · have hf := pt_sl hf
              cases hf
              cases hi
              exact q
            have hf := pt_sr hf
            show pm_G g 160 [(3, .long y41), (0, .ref x0), (1, .int x1), (2, .int x2)] [] w85 0 0
            refine pm_aload_n C dX16_checksElement_160 rfl rfl ?_
            refine pm_aload_n C dX16_checksElement_161 rfl rfl ?_
            obtain ⟨k87, hf⟩ := pm_if hf
            obtain ⟨v88, e89, hf⟩ := pm_bd hf
            refine pm_getR C dX16_checksElement_162 flX16_221 rfl k87 e89 ?_
            obtain ⟨k90, hf⟩ := pm_if hf
            obtain ⟨v91, e92, hf⟩ := pm_bd hf
            refine pm_getR C dX16_checksElement_165 flX16_504 rfl k90 e92 ?_
            refine pm_iload_n C dX16_checksElement_168 rfl rfl ?_
            obtain ⟨k93, hf⟩ := pm_if hf
            obtain ⟨u94, hf⟩ := pm_if hf
            refine pm_iald C dX16_checksElement_169 k93 u94 rfl ?_
            obtain ⟨y95, e96, hf⟩ := pm_lt hf
            refine pm_topI e96 ?_
            refine pm_putI C dX16_checksElement_170 flX16_594 rfl rfl k87 rfl rfl ?_
            refine pm_iconst (v := 0) C dX16_checksElement_173 (by decide) ?_
            refine pm_istore_n (lv' := [(3, .int 0), (0, .ref x0), (1, .int x1), (2, .int x2)]) C dX16_checksElement_174 rfl (pt_nl X (by decide)) rfl ?_
            cases hf
            exact pm_sub [1, 2, 0] rfl (ih.2.2 x0 x1 0 (pm_setI w85 x0 19 y95) hi)
          · have hf := pm_ie hf c78
            refine pm_aload_n C dX16_checksElement_138 rfl rfl ?_
            refine pm_bipush (v := 28) C dX16_checksElement_139 (by decide) ?_
            refine pm_iload_n C dX16_checksElement_141 rfl rfl ?_
            obtain ⟨v97, e98, hf⟩ := pm_bd hf
            refine pt_callVT (as := [.int 28, .int x2]) (st := []) C X dX16_checksElement_142 ltX16_257 myX16_stops viX16_stops ⟨by decide, by decide⟩ rfl rfl k22 (Nat.le_of_ble_eq_true rfl) (Nat.le_refl _) (Nat.le_refl _) (ctX16_stops e98 ?_)
            rcases v97 with z100 | w99
            · have hf := pt_sl hf
              cases hf
              cases hi
              exact q
            have hf := pt_sr hf
            show pm_G g 145 [(3, .long y41), (0, .ref x0), (1, .int x1), (2, .int x2)] [] w99 0 0
            refine pm_aload_n C dX16_checksElement_145 rfl rfl ?_
            refine pm_aload_n C dX16_checksElement_146 rfl rfl ?_
            obtain ⟨k101, hf⟩ := pm_if hf
            obtain ⟨v102, e103, hf⟩ := pm_bd hf
            refine pm_getR C dX16_checksElement_147 flX16_221 rfl k101 e103 ?_
            obtain ⟨k104, hf⟩ := pm_if hf
            obtain ⟨v105, e106, hf⟩ := pm_bd hf
            refine pm_getR C dX16_checksElement_150 flX16_495 rfl k104 e106 ?_
            refine pm_iload_n C dX16_checksElement_153 rfl rfl ?_
            obtain ⟨k107, hf⟩ := pm_if hf
            obtain ⟨u108, hf⟩ := pm_if hf
            refine pm_iald C dX16_checksElement_154 k107 u108 rfl ?_
            refine pm_bipush (v := 127) C dX16_checksElement_155 (by decide) ?_
            obtain ⟨v109, e110, hf⟩ := pm_bd hf
            refine pt_callVT (as := [.int (pm_I w99 v105 x1.toNatClampNeg), .int 127]) (st := []) C X dX16_checksElement_157 ltX16_627 myX16_constantly viX16_constantly ⟨by decide, by decide⟩ rfl rfl k101 (Nat.le_of_ble_eq_true rfl) (Nat.le_refl _) (Nat.le_refl _) (ctX16_constantly e110 ?_)
            rcases v109 with z112 | w111
            · have hf := pt_sl hf
              cases hf
              cases hi
              exact q
            have hf := pt_sr hf
            show pm_G g 160 [(3, .long y41), (0, .ref x0), (1, .int x1), (2, .int x2)] [] w111 0 0
            refine pm_aload_n C dX16_checksElement_160 rfl rfl ?_
            refine pm_aload_n C dX16_checksElement_161 rfl rfl ?_
            obtain ⟨k113, hf⟩ := pm_if hf
            obtain ⟨v114, e115, hf⟩ := pm_bd hf
            refine pm_getR C dX16_checksElement_162 flX16_221 rfl k113 e115 ?_
            obtain ⟨k116, hf⟩ := pm_if hf
            obtain ⟨v117, e118, hf⟩ := pm_bd hf
            refine pm_getR C dX16_checksElement_165 flX16_504 rfl k116 e118 ?_
            refine pm_iload_n C dX16_checksElement_168 rfl rfl ?_
            obtain ⟨k119, hf⟩ := pm_if hf
            obtain ⟨u120, hf⟩ := pm_if hf
            refine pm_iald C dX16_checksElement_169 k119 u120 rfl ?_
            obtain ⟨y121, e122, hf⟩ := pm_lt hf
            refine pm_topI e122 ?_
            refine pm_putI C dX16_checksElement_170 flX16_594 rfl rfl k113 rfl rfl ?_
            refine pm_iconst (v := 0) C dX16_checksElement_173 (by decide) ?_
            refine pm_istore_n (lv' := [(3, .int 0), (0, .ref x0), (1, .int x1), (2, .int x2)]) C dX16_checksElement_174 rfl (pt_nl X (by decide)) rfl ?_
            cases hf
            exact pm_sub [1, 2, 0] rfl (ih.2.2 x0 x1 0 (pm_setI w111 x0 19 y121) hi)
    refine ⟨fun x0 x1 x2 x3 h hf => ?_, ?_⟩
    · obtain ⟨y, hf, hi⟩ := pm_iter_s hf
      have hf : tX16_checksElement_38 x0 x1 x2 x3 h = some y := hf
      unfold tX16_checksElement_38 at hf
      refine pm_iload_n C dX16_checksElement_38 rfl rfl ?_
      refine pm_aload_n C dX16_checksElement_39 rfl rfl ?_
      obtain ⟨k123, hf⟩ := pm_if hf
      obtain ⟨v124, e125, hf⟩ := pm_bd hf
      refine pm_getR C dX16_checksElement_40 flX16_221 rfl k123 e125 ?_
      obtain ⟨k126, hf⟩ := pm_if hf
      obtain ⟨v127, e128, hf⟩ := pm_bd hf
      refine pm_getR C dX16_checksElement_43 flX16_507 rfl k126 e128 ?_
      refine pm_iload_n C dX16_checksElement_46 rfl rfl ?_
      obtain ⟨k129, hf⟩ := pm_if hf
      obtain ⟨u130, hf⟩ := pm_if hf
      refine pm_iald C dX16_checksElement_47 k129 u130 rfl ?_
      refine pm_icmp_ge (tgt := 81) C dX16_checksElement_48 (by decide) (fun c131 => ?_) (fun c131 => ?_)
      · have hf := pm_it hf c131
        cases hf
        exact pm_sub [0, 1, 2] rfl (ih.1 x0 x1 x2 h hi)
      · have hf := pm_ie hf c131
        refine pm_aload_n C dX16_checksElement_51 rfl rfl ?_
        obtain ⟨v132, e133, hf⟩ := pm_bd hf
        refine pt_callV (as := []) (st := []) C X dX16_checksElement_52 lnX16_603 myX16_word viX16_word ⟨by decide, by decide⟩ rfl rfl k123 (Nat.le_of_ble_eq_true rfl) (Nat.le_refl _) (Nat.le_refl _) (ctX16_word e133 ?_)
        show pm_G g 55 [(0, .ref x0), (1, .int x1), (2, .int x2), (3, .int x3)] [.long v132.1] v132.2 0 0
        refine pm_aload_n C dX16_checksElement_55 rfl rfl ?_
        obtain ⟨k134, hf⟩ := pm_if hf
        obtain ⟨v135, e136, hf⟩ := pm_bd hf
        refine pm_getR C dX16_checksElement_56 flX16_221 rfl k134 e136 ?_
        refine pm_iconst (v := 0) C dX16_checksElement_59 (by decide) ?_
        obtain ⟨k137, hf⟩ := pm_if hf
        obtain ⟨v138, e139, hf⟩ := pm_bd hf
        refine pt_callV (as := [.int 0]) (st := [.long v132.1]) C X dX16_checksElement_60 lnX16_615 myX14_all viX14_all ⟨by decide, by decide⟩ rfl rfl k137 (Nat.le_of_ble_eq_true rfl) (Nat.le_refl _) (Nat.le_refl _) (ctX14_all e139 ?_)
        show pm_G g 63 [(0, .ref x0), (1, .int x1), (2, .int x2), (3, .int x3)] [.int v138, .long v132.1] v132.2 0 0
        refine pm_i2l C dX16_checksElement_63 ?_
        refine pm_lcmp C dX16_checksElement_64 ?_
        refine pm_if_lt (tgt := 75) C dX16_checksElement_65 (by decide) (fun c140 => ?_) (fun c140 => ?_)
        · have hf := pm_it hf ((pm_lg_lt _ _).mp c140)
          obtain ⟨y141, e142, hf⟩ := pm_lt hf
          refine pm_iinc (v := y141) (lv' := [(3, .int y141), (0, .ref x0), (1, .int x1), (2, .int x2)]) C dX16_checksElement_75 rfl ((congrArg (x3 + ·) (by decide : Int32.ofInt 1 = 1)).trans e142) (pt_nl X (by decide)) rfl ?_
          refine pm_goto (tgt := 38) C dX16_checksElement_78 (by decide) ?_
          cases hf
          exact pm_sub [1, 2, 3, 0] rfl (ih.2.1 x0 x1 x2 y141 v132.2 hi)
        · have hf := pm_ie hf ((fun z => c140 ((pm_lg_lt _ _).mpr z)))
          refine pm_aload_n C dX16_checksElement_68 rfl rfl ?_
          refine pm_bipush (v := 28) C dX16_checksElement_69 (by decide) ?_
          refine pm_iload_n C dX16_checksElement_71 rfl rfl ?_
          obtain ⟨v143, e144, hf⟩ := pm_bd hf
          refine pt_callVT (as := [.int 28, .int x2]) (st := []) C X dX16_checksElement_72 ltX16_257 myX16_stops viX16_stops ⟨by decide, by decide⟩ rfl rfl k134 (Nat.le_of_ble_eq_true rfl) (Nat.le_refl _) (Nat.le_refl _) (ctX16_stops e144 ?_)
          rcases v143 with z146 | w145
          · have hf := pt_sl hf
            cases hf
            cases hi
            exact q
          have hf := pt_sr hf
          show pm_G g 75 [(0, .ref x0), (1, .int x1), (2, .int x2), (3, .int x3)] [] w145 0 0
          obtain ⟨y147, e148, hf⟩ := pm_lt hf
          refine pm_iinc (v := y147) (lv' := [(3, .int y147), (0, .ref x0), (1, .int x1), (2, .int x2)]) C dX16_checksElement_75 rfl ((congrArg (x3 + ·) (by decide : Int32.ofInt 1 = 1)).trans e148) (pt_nl X (by decide)) rfl ?_
          refine pm_goto (tgt := 38) C dX16_checksElement_78 (by decide) ?_
          cases hf
          exact pm_sub [1, 2, 3, 0] rfl (ih.2.1 x0 x1 x2 y147 w145 hi)
    refine fun x0 x1 x3 h hf => ?_
    obtain ⟨y, hf, hi⟩ := pm_iter_s hf
    have hf : tX16_checksElement_175 x0 x1 x3 h = some y := hf
    unfold tX16_checksElement_175 at hf
    refine pm_iload_n C dX16_checksElement_175 rfl rfl ?_
    refine pm_aload_n C dX16_checksElement_176 rfl rfl ?_
    obtain ⟨k149, hf⟩ := pm_if hf
    obtain ⟨v150, e151, hf⟩ := pm_bd hf
    refine pm_getR C dX16_checksElement_177 flX16_221 rfl k149 e151 ?_
    obtain ⟨k152, hf⟩ := pm_if hf
    obtain ⟨v153, e154, hf⟩ := pm_bd hf
    refine pm_getR C dX16_checksElement_180 flX16_507 rfl k152 e154 ?_
    refine pm_iload_n C dX16_checksElement_183 rfl rfl ?_
    obtain ⟨k155, hf⟩ := pm_if hf
    obtain ⟨u156, hf⟩ := pm_if hf
    refine pm_iald C dX16_checksElement_184 k155 u156 rfl ?_
    refine pm_icmp_ge (tgt := 223) C dX16_checksElement_185 (by decide) (fun c157 => ?_) (fun c157 => ?_)
    · have hf := pm_it hf c157
      cases hf
      cases hi
      exact pt_vret C X dX16_checksElement_223 rfl (Nat.le_refl _) (Nat.le_refl _) q
    · have hf := pm_ie hf c157
      refine pm_aload_n C dX16_checksElement_188 rfl rfl ?_
      refine pm_getR C dX16_checksElement_189 flX16_221 rfl k149 e151 ?_
      obtain ⟨v158, e159, hf⟩ := pm_bd hf
      refine pm_getR C dX16_checksElement_192 flX16_498 rfl k152 e159 ?_
      refine pm_iload_n C dX16_checksElement_195 rfl rfl ?_
      obtain ⟨k160, hf⟩ := pm_if hf
      obtain ⟨u161, hf⟩ := pm_if hf
      refine pm_zald C dX16_checksElement_196 k160 u161 rfl ?_
      refine pm_if_eq (tgt := 223) C dX16_checksElement_197 (by decide) (fun c162 => ?_) (fun c162 => ?_)
      · have hf := pm_it hf c162
        cases hf
        cases hi
        exact pt_vret C X dX16_checksElement_223 rfl (Nat.le_refl _) (Nat.le_refl _) q
      · have hf := pm_ie hf c162
        refine pm_aload_n C dX16_checksElement_200 rfl rfl ?_
        refine pm_aload_n C dX16_checksElement_201 rfl rfl ?_
        refine pm_getI C dX16_checksElement_202 flX16_594 rfl k149 rfl ?_
        refine pm_aload_n C dX16_checksElement_205 rfl rfl ?_
        refine pm_getR C dX16_checksElement_206 flX16_221 rfl k149 e151 ?_
        obtain ⟨v163, e164, hf⟩ := pm_bd hf
        refine pm_getR C dX16_checksElement_209 flX16_501 rfl k152 e164 ?_
        refine pm_iload_n C dX16_checksElement_212 rfl rfl ?_
        obtain ⟨k165, hf⟩ := pm_if hf
        obtain ⟨u166, hf⟩ := pm_if hf
        refine pm_iald C dX16_checksElement_213 k165 u166 rfl ?_
        obtain ⟨v167, e168, hf⟩ := pm_bd hf
        refine pt_callVT (as := [.int (pm_I h x0 19), .int (pm_I h v163 x1.toNatClampNeg)]) (st := []) C X dX16_checksElement_214 ltX16_627 myX16_constantly viX16_constantly ⟨by decide, by decide⟩ rfl rfl k149 (Nat.le_of_ble_eq_true rfl) (Nat.le_refl _) (Nat.le_refl _) (ctX16_constantly e168 ?_)
        rcases v167 with z170 | w169
        · have hf := pt_sl hf
          cases hf
          cases hi
          exact q
        have hf := pt_sr hf
        show pm_G g 217 [(0, .ref x0), (1, .int x1), (3, .int x3)] [] w169 0 0
        obtain ⟨y171, e172, hf⟩ := pm_lt hf
        refine pm_iinc (v := y171) (lv' := [(3, .int y171), (0, .ref x0), (1, .int x1)]) C dX16_checksElement_217 rfl ((congrArg (x3 + ·) (by decide : Int32.ofInt 1 = 1)).trans e172) (pt_nl X (by decide)) rfl ?_
        refine pm_goto (tgt := 175) C dX16_checksElement_220 (by decide) ?_
        cases hf
        exact pm_sub [1, 2, 0] rfl (ih.2.2 x0 x1 y171 w169 hi)
set_option maxHeartbeats 4000000 in
set_option maxRecDepth 100000 in
theorem ctX16_checksElement {l : Launch} {G : pm_Gl} {h : pm_H} {a0 : Nat} {p1 : Int32} {r : ((Nat × pm_H) ⊕ pm_H)} {Qr : Option Value → pm_H → Prop} {Qt : Nat → pm_H → Prop} (hf : fX16_checksElement h a0 p1 = some r) (q : pt_eV Qr Qt r) : pm_Ctt l G mX16_checksElement [.ref a0, .int p1] h 0 0 Qr Qt := by
  refine pm_bodyT pnX16 (Nat.le_of_ble_eq_true rfl) (fun g C X => ?_)
  have C : pm_C g cX16_checksElement RX16 := C
  show pm_G g 0 [(0, .ref a0), (1, .int p1)] [] h 0 0
  unfold fX16_checksElement at hf
  refine pm_aload_n C dX16_checksElement_0 rfl rfl ?_
  obtain ⟨k1, hf⟩ := pm_if hf
  obtain ⟨v2, e3, hf⟩ := pm_bd hf
  refine pm_getR C dX16_checksElement_1 flX16_221 rfl k1 e3 ?_
  obtain ⟨k4, hf⟩ := pm_if hf
  obtain ⟨v5, e6, hf⟩ := pm_bd hf
  refine pm_getR C dX16_checksElement_4 flX16_302 rfl k4 e6 ?_
  refine pm_bipush (v := 9) C dX16_checksElement_7 (by decide) ?_
  obtain ⟨k7, hf⟩ := pm_if hf
  obtain ⟨u8, hf⟩ := pm_if hf
  refine pm_iald C dX16_checksElement_9 k7 u8 rfl ?_
  obtain ⟨y9, e10, hf⟩ := pm_lt hf
  refine pm_topI e10 ?_
  refine pm_istore_n (lv' := [(2, .int y9), (0, .ref a0), (1, .int p1)]) C dX16_checksElement_10 rfl (pt_nl X (by decide)) rfl ?_
  refine pm_aload_n C dX16_checksElement_11 rfl rfl ?_
  refine pm_getR C dX16_checksElement_12 flX16_221 rfl k1 e3 ?_
  obtain ⟨v11, e12, hf⟩ := pm_bd hf
  refine pm_getR C dX16_checksElement_15 flX16_498 rfl k4 e12 ?_
  refine pm_iload_n C dX16_checksElement_18 rfl rfl ?_
  obtain ⟨k13, hf⟩ := pm_if hf
  obtain ⟨u14, hf⟩ := pm_if hf
  refine pm_zald C dX16_checksElement_19 k13 u14 rfl ?_
  refine pm_if_ne (tgt := 81) C dX16_checksElement_20 (by decide) (fun c15 => ?_) (fun c15 => ?_)
  · have hf := pm_ie hf c15
    obtain ⟨n, hn⟩ := pm_lim_iter hf
    exact pm_sub [1, 2, 0] rfl ((lpX16_checksElement C X q n).1 a0 p1 y9 h hn)
  · have hf := pm_it hf c15
    refine pm_aload_n C dX16_checksElement_23 rfl rfl ?_
    refine pm_aload_n C dX16_checksElement_24 rfl rfl ?_
    refine pm_getR C dX16_checksElement_25 flX16_221 rfl k1 e3 ?_
    obtain ⟨v16, e17, hf⟩ := pm_bd hf
    refine pm_getR C dX16_checksElement_28 flX16_504 rfl k4 e17 ?_
    refine pm_iload_n C dX16_checksElement_31 rfl rfl ?_
    obtain ⟨k18, hf⟩ := pm_if hf
    obtain ⟨u19, hf⟩ := pm_if hf
    refine pm_iald C dX16_checksElement_32 k18 u19 rfl ?_
    obtain ⟨y20, e21, hf⟩ := pm_lt hf
    refine pm_topI e21 ?_
    refine pm_putI C dX16_checksElement_33 flX16_594 rfl rfl k1 rfl rfl ?_
    refine pm_iconst (v := 0) C dX16_checksElement_36 (by decide) ?_
    refine pm_istore_n (lv' := [(3, .int 0), (2, .int y9), (0, .ref a0), (1, .int p1)]) C dX16_checksElement_37 rfl (pt_nl X (by decide)) rfl ?_
    obtain ⟨n, hn⟩ := pm_lim_iter hf
    exact pm_sub [2, 3, 1, 0] rfl ((lpX16_checksElement C X q n).2.1 a0 p1 y9 0 (pm_setI h a0 19 y20) hn)
theorem dX16_chooses_0 : decode cX16_chooses 0 = .ok (.aload_n 0, 1) := by decide +kernel
theorem dX16_chooses_1 : decode cX16_chooses 1 = .ok (.invokevirtual 603, 3) := by decide +kernel
theorem dX16_chooses_4 : decode cX16_chooses 4 = .ok (.l2i, 1) := by decide +kernel
theorem dX16_chooses_5 : decode cX16_chooses 5 = .ok (.istore_n 1, 1) := by decide +kernel
theorem dX16_chooses_6 : decode cX16_chooses 6 = .ok (.aload_n 0, 1) := by decide +kernel
theorem dX16_chooses_7 : decode cX16_chooses 7 = .ok (.getfield 594, 3) := by decide +kernel
theorem dX16_chooses_10 : decode cX16_chooses 10 = .ok (.istore_n 2, 1) := by decide +kernel
theorem dX16_chooses_11 : decode cX16_chooses 11 = .ok (.iconst 0, 1) := by decide +kernel
theorem dX16_chooses_12 : decode cX16_chooses 12 = .ok (.istore_n 3, 1) := by decide +kernel
theorem dX16_chooses_13 : decode cX16_chooses 13 = .ok (.iconst 0, 1) := by decide +kernel
theorem dX16_chooses_14 : decode cX16_chooses 14 = .ok (.istore 4, 2) := by decide +kernel
theorem dX16_chooses_16 : decode cX16_chooses 16 = .ok (.iload 4, 2) := by decide +kernel
theorem dX16_chooses_18 : decode cX16_chooses 18 = .ok (.iload_n 1, 1) := by decide +kernel
theorem dX16_chooses_19 : decode cX16_chooses 19 = .ok (.if_icmp .gt 15, 3) := by decide +kernel
theorem dX16_chooses_22 : decode cX16_chooses 22 = .ok (.aload_n 0, 1) := by decide +kernel
theorem dX16_chooses_23 : decode cX16_chooses 23 = .ok (.invokevirtual 603, 3) := by decide +kernel
theorem dX16_chooses_26 : decode cX16_chooses 26 = .ok (.l2i, 1) := by decide +kernel
theorem dX16_chooses_27 : decode cX16_chooses 27 = .ok (.istore_n 3, 1) := by decide +kernel
theorem dX16_chooses_28 : decode cX16_chooses 28 = .ok (.iinc 4 1, 3) := by decide +kernel
theorem dX16_chooses_31 : decode cX16_chooses 31 = .ok (.goto (-15), 3) := by decide +kernel
theorem dX16_chooses_34 : decode cX16_chooses 34 = .ok (.aload_n 0, 1) := by decide +kernel
theorem dX16_chooses_35 : decode cX16_chooses 35 = .ok (.bipush 127, 2) := by decide +kernel
theorem dX16_chooses_37 : decode cX16_chooses 37 = .ok (.iconst 1, 1) := by decide +kernel
theorem dX16_chooses_38 : decode cX16_chooses 38 = .ok (.invokevirtual 750, 3) := by decide +kernel
theorem dX16_chooses_41 : decode cX16_chooses 41 = .ok (.aload_n 0, 1) := by decide +kernel
theorem dX16_chooses_42 : decode cX16_chooses 42 = .ok (.iload_n 3, 1) := by decide +kernel
theorem dX16_chooses_43 : decode cX16_chooses 43 = .ok (.invokevirtual 704, 3) := by decide +kernel
theorem dX16_chooses_46 : decode cX16_chooses 46 = .ok (.istore 4, 2) := by decide +kernel
theorem dX16_chooses_48 : decode cX16_chooses 48 = .ok (.aload_n 0, 1) := by decide +kernel
theorem dX16_chooses_49 : decode cX16_chooses 49 = .ok (.iload_n 2, 1) := by decide +kernel
theorem dX16_chooses_50 : decode cX16_chooses 50 = .ok (.putfield 594, 3) := by decide +kernel
theorem dX16_chooses_53 : decode cX16_chooses 53 = .ok (.iconst 0, 1) := by decide +kernel
theorem dX16_chooses_54 : decode cX16_chooses 54 = .ok (.istore 5, 2) := by decide +kernel
theorem dX16_chooses_56 : decode cX16_chooses 56 = .ok (.iload 5, 2) := by decide +kernel
theorem dX16_chooses_58 : decode cX16_chooses 58 = .ok (.iload_n 1, 1) := by decide +kernel
theorem dX16_chooses_59 : decode cX16_chooses 59 = .ok (.if_icmp .ge 100, 3) := by decide +kernel
theorem dX16_chooses_62 : decode cX16_chooses 62 = .ok (.aload_n 0, 1) := by decide +kernel
theorem dX16_chooses_63 : decode cX16_chooses 63 = .ok (.invokevirtual 603, 3) := by decide +kernel
theorem dX16_chooses_66 : decode cX16_chooses 66 = .ok (.l2i, 1) := by decide +kernel
theorem dX16_chooses_67 : decode cX16_chooses 67 = .ok (.istore 6, 2) := by decide +kernel
theorem dX16_chooses_69 : decode cX16_chooses 69 = .ok (.aload_n 0, 1) := by decide +kernel
theorem dX16_chooses_70 : decode cX16_chooses 70 = .ok (.iload 6, 2) := by decide +kernel
theorem dX16_chooses_72 : decode cX16_chooses 72 = .ok (.invokevirtual 704, 3) := by decide +kernel
theorem dX16_chooses_75 : decode cX16_chooses 75 = .ok (.iload 4, 2) := by decide +kernel
theorem dX16_chooses_77 : decode cX16_chooses 77 = .ok (.if_icmp .eq 13, 3) := by decide +kernel
theorem dX16_chooses_80 : decode cX16_chooses 80 = .ok (.aload_n 0, 1) := by decide +kernel
theorem dX16_chooses_81 : decode cX16_chooses 81 = .ok (.bipush 29, 2) := by decide +kernel
theorem dX16_chooses_83 : decode cX16_chooses 83 = .ok (.aload_n 0, 1) := by decide +kernel
theorem dX16_chooses_84 : decode cX16_chooses 84 = .ok (.getfield 686, 3) := by decide +kernel
theorem dX16_chooses_87 : decode cX16_chooses 87 = .ok (.invokevirtual 257, 3) := by decide +kernel
theorem dX16_chooses_90 : decode cX16_chooses 90 = .ok (.iload 4, 2) := by decide +kernel
theorem dX16_chooses_92 : decode cX16_chooses 92 = .ok (.iconst 1, 1) := by decide +kernel
theorem dX16_chooses_93 : decode cX16_chooses 93 = .ok (.isub, 1) := by decide +kernel
theorem dX16_chooses_94 : decode cX16_chooses 94 = .ok (.istore 7, 2) := by decide +kernel
theorem dX16_chooses_96 : decode cX16_chooses 96 = .ok (.iload 7, 2) := by decide +kernel
theorem dX16_chooses_98 : decode cX16_chooses 98 = .ok (.ifCond .lt 28, 3) := by decide +kernel
theorem dX16_chooses_101 : decode cX16_chooses 101 = .ok (.aload_n 0, 1) := by decide +kernel
theorem dX16_chooses_102 : decode cX16_chooses 102 = .ok (.getfield 55, 3) := by decide +kernel
theorem dX16_chooses_105 : decode cX16_chooses 105 = .ok (.iload 7, 2) := by decide +kernel
theorem dX16_chooses_107 : decode cX16_chooses 107 = .ok (.aload_n 0, 1) := by decide +kernel
theorem dX16_chooses_108 : decode cX16_chooses 108 = .ok (.aload_n 0, 1) := by decide +kernel
theorem dX16_chooses_109 : decode cX16_chooses 109 = .ok (.iload 6, 2) := by decide +kernel
theorem dX16_chooses_111 : decode cX16_chooses 111 = .ok (.iload 7, 2) := by decide +kernel
theorem dX16_chooses_113 : decode cX16_chooses 113 = .ok (.invokevirtual 707, 3) := by decide +kernel
theorem dX16_chooses_116 : decode cX16_chooses 116 = .ok (.invokevirtual 692, 3) := by decide +kernel
theorem dX16_chooses_119 : decode cX16_chooses 119 = .ok (.iastore, 1) := by decide +kernel
theorem dX16_chooses_120 : decode cX16_chooses 120 = .ok (.iinc 7 (-1), 3) := by decide +kernel
theorem dX16_chooses_123 : decode cX16_chooses 123 = .ok (.goto (-27), 3) := by decide +kernel
theorem dX16_chooses_126 : decode cX16_chooses 126 = .ok (.iconst 0, 1) := by decide +kernel
theorem dX16_chooses_127 : decode cX16_chooses 127 = .ok (.istore 7, 2) := by decide +kernel
theorem dX16_chooses_129 : decode cX16_chooses 129 = .ok (.iload 7, 2) := by decide +kernel
theorem dX16_chooses_131 : decode cX16_chooses 131 = .ok (.iload 4, 2) := by decide +kernel
theorem dX16_chooses_133 : decode cX16_chooses 133 = .ok (.if_icmp .ge 20, 3) := by decide +kernel
theorem dX16_chooses_136 : decode cX16_chooses 136 = .ok (.aload_n 0, 1) := by decide +kernel
theorem dX16_chooses_137 : decode cX16_chooses 137 = .ok (.aload_n 0, 1) := by decide +kernel
theorem dX16_chooses_138 : decode cX16_chooses 138 = .ok (.getfield 55, 3) := by decide +kernel
theorem dX16_chooses_141 : decode cX16_chooses 141 = .ok (.iload 7, 2) := by decide +kernel
theorem dX16_chooses_143 : decode cX16_chooses 143 = .ok (.iaload, 1) := by decide +kernel
theorem dX16_chooses_144 : decode cX16_chooses 144 = .ok (.invokevirtual 695, 3) := by decide +kernel
theorem dX16_chooses_147 : decode cX16_chooses 147 = .ok (.iinc 7 1, 3) := by decide +kernel
theorem dX16_chooses_150 : decode cX16_chooses 150 = .ok (.goto (-21), 3) := by decide +kernel
theorem dX16_chooses_153 : decode cX16_chooses 153 = .ok (.iinc 5 1, 3) := by decide +kernel
theorem dX16_chooses_156 : decode cX16_chooses 156 = .ok (.goto (-100), 3) := by decide +kernel
theorem dX16_chooses_159 : decode cX16_chooses 159 = .ok (.aload_n 0, 1) := by decide +kernel
theorem dX16_chooses_160 : decode cX16_chooses 160 = .ok (.iload_n 3, 1) := by decide +kernel
theorem dX16_chooses_161 : decode cX16_chooses 161 = .ok (.invokevirtual 774, 3) := by decide +kernel
theorem dX16_chooses_164 : decode cX16_chooses 164 = .ok (.aload_n 0, 1) := by decide +kernel
theorem dX16_chooses_165 : decode cX16_chooses 165 = .ok (.invokevirtual 762, 3) := by decide +kernel
theorem dX16_chooses_168 : decode cX16_chooses 168 = .ok (.return_, 1) := by decide +kernel
noncomputable def tX16_chooses_16 (x0 : Nat) (x1 : Int32) (x2 : Int32) (x3 : Int32) (x4 : Int32) (h : pm_H) : Option (((Nat × Int32 × Int32 × Int32 × Int32 × pm_H) ⊕ (Nat × Int32 × Int32 × Int32 × Int32 × pm_H) ⊕ (Nat × Int32 × Int32 × Int32 × Int32 × Int32 × Int32 × pm_H) ⊕ (Nat × Int32 × Int32 × Int32 × Int32 × Int32 × pm_H)) ⊕ ((Nat × pm_H) ⊕ pm_H)) := if x1 < x4 then (if pm_kd h x0 = 16 then (fX16_takes h x0 127 1).bind fun v9 => pt_s v9 fun w11 => if pm_kd w11 x0 = 16 then (fX16_wantedBy w11 x0 x3).bind fun v14 => some (.inl (.inr (.inl ((x0, x1, x3, v14, 0, pm_setI w11 x0 19 x2))))) else none else none) else (if pm_kd h x0 = 16 then (fX16_word h x0).bind fun v17 => pm_let (x4 + 1) fun y19 => some (.inl (.inl ((x0, x1, x2, v17.1.toInt32, y19, v17.2)))) else none)
noncomputable def tX16_chooses_56 (x0 : Nat) (x1 : Int32) (x3 : Int32) (x4 : Int32) (x5 : Int32) (h : pm_H) : Option (((Nat × Int32 × Int32 × Int32 × Int32 × pm_H) ⊕ (Nat × Int32 × Int32 × Int32 × Int32 × pm_H) ⊕ (Nat × Int32 × Int32 × Int32 × Int32 × Int32 × Int32 × pm_H) ⊕ (Nat × Int32 × Int32 × Int32 × Int32 × Int32 × pm_H)) ⊕ ((Nat × pm_H) ⊕ pm_H)) := if x1 ≤ x5 then (if pm_kd h x0 = 16 then (fX16_takeWanted h x0 x3).bind fun v23 => pt_s v23 fun w25 => if pm_kd w25 x0 = 16 then (fX16_dies w25 x0).bind fun v28 => some (.inr (.inr (v28))) else none else none) else (if pm_kd h x0 = 16 then (fX16_word h x0).bind fun v31 => if pm_kd v31.2 x0 = 16 then (fX16_wantedBy v31.2 x0 v31.1.toInt32).bind fun v34 => if v34 = x4 then (pm_let (x4 - 1) fun y37 => some (.inl (.inr (.inr (.inl ((x0, x1, x3, x4, x5, v31.1.toInt32, y37, v31.2))))))) else ((fX16_stops v31.2 x0 29 (pm_I v31.2 x0 31)).bind fun v39 => pt_s v39 fun w41 => pm_let (x4 - 1) fun y43 => some (.inl (.inr (.inr (.inl ((x0, x1, x3, x4, x5, v31.1.toInt32, y43, w41))))))) else none else none)
noncomputable def tX16_chooses_96 (x0 : Nat) (x1 : Int32) (x3 : Int32) (x4 : Int32) (x5 : Int32) (x6 : Int32) (x7 : Int32) (h : pm_H) : Option (((Nat × Int32 × Int32 × Int32 × Int32 × pm_H) ⊕ (Nat × Int32 × Int32 × Int32 × Int32 × pm_H) ⊕ (Nat × Int32 × Int32 × Int32 × Int32 × Int32 × Int32 × pm_H) ⊕ (Nat × Int32 × Int32 × Int32 × Int32 × Int32 × pm_H)) ⊕ ((Nat × pm_H) ⊕ pm_H)) := if x7 < 0 then (some (.inl (.inr (.inr (.inr ((x0, x1, x3, x4, x5, 0, h))))))) else (if pm_kd h x0 = 16 then (pm_R h x0 32).bind fun v47 => (fX16_wantedAt h x0 x6 x7).bind fun v49 => (fX16_take h x0 v49).bind fun v51 => pt_s v51 fun w53 => if pm_kd w53.2 v47 = 34 then if pm_in x7 (pm_ln w53.2 v47) then pm_let (x7 + (-1)) fun y57 => some (.inl (.inr (.inr (.inl ((x0, x1, x3, x4, x5, x6, y57, pm_setI w53.2 v47 x7.toNatClampNeg w53.1)))))) else none else none else none)
noncomputable def tX16_chooses_129 (x0 : Nat) (x1 : Int32) (x3 : Int32) (x4 : Int32) (x5 : Int32) (x7 : Int32) (h : pm_H) : Option (((Nat × Int32 × Int32 × Int32 × Int32 × pm_H) ⊕ (Nat × Int32 × Int32 × Int32 × Int32 × pm_H) ⊕ (Nat × Int32 × Int32 × Int32 × Int32 × Int32 × Int32 × pm_H) ⊕ (Nat × Int32 × Int32 × Int32 × Int32 × Int32 × pm_H)) ⊕ ((Nat × pm_H) ⊕ pm_H)) := if x4 ≤ x7 then (pm_let (x5 + 1) fun y60 => some (.inl (.inr (.inl ((x0, x1, x3, x4, y60, h)))))) else (if pm_kd h x0 = 16 then (pm_R h x0 32).bind fun v63 => if pm_kd h v63 = 34 then if pm_in x7 (pm_ln h v63) then (fX16_put h x0 (pm_I h v63 x7.toNatClampNeg)).bind fun v67 => pt_s v67 fun w69 => pm_let (x7 + 1) fun y71 => some (.inl (.inr (.inr (.inr ((x0, x1, x3, x4, x5, y71, w69)))))) else none else none else none)
noncomputable def sX16_chooses : ((Nat × Int32 × Int32 × Int32 × Int32 × pm_H) ⊕ (Nat × Int32 × Int32 × Int32 × Int32 × pm_H) ⊕ (Nat × Int32 × Int32 × Int32 × Int32 × Int32 × Int32 × pm_H) ⊕ (Nat × Int32 × Int32 × Int32 × Int32 × Int32 × pm_H)) → Option (((Nat × Int32 × Int32 × Int32 × Int32 × pm_H) ⊕ (Nat × Int32 × Int32 × Int32 × Int32 × pm_H) ⊕ (Nat × Int32 × Int32 × Int32 × Int32 × Int32 × Int32 × pm_H) ⊕ (Nat × Int32 × Int32 × Int32 × Int32 × Int32 × pm_H)) ⊕ ((Nat × pm_H) ⊕ pm_H)) := fun z => match z with
  | .inl (x0, x1, x2, x3, x4, h) => tX16_chooses_16 x0 x1 x2 x3 x4 h
  | .inr (.inl (x0, x1, x3, x4, x5, h)) => tX16_chooses_56 x0 x1 x3 x4 x5 h
  | .inr (.inr (.inl (x0, x1, x3, x4, x5, x6, x7, h))) => tX16_chooses_96 x0 x1 x3 x4 x5 x6 x7 h
  | .inr (.inr (.inr (x0, x1, x3, x4, x5, x7, h))) => tX16_chooses_129 x0 x1 x3 x4 x5 x7 h
noncomputable def fX16_chooses (h : pm_H) (a0 : Nat) : Option ((Nat × pm_H) ⊕ pm_H) := if pm_kd h a0 = 16 then (fX16_word h a0).bind fun v2 => if pm_kd v2.2 a0 = 16 then pm_let (pm_I v2.2 a0 19) fun y5 => pm_lim sX16_chooses (.inl ((a0, v2.1.toInt32, y5, 0, 0, v2.2))) else none else none
set_option maxHeartbeats 4000000 in
set_option maxRecDepth 100000 in
theorem lpX16_chooses {g : pm_Gm} {l : Launch} {G : pm_Gl} {Qr : Option Value → pm_H → Prop} {Qt : Nat → pm_H → Prop} (C : pm_C g cX16_chooses RX16) (X : pm_XT g l G mX16_chooses 0 0 Qr Qt) {r : ((Nat × pm_H) ⊕ pm_H)} (q : pt_eV Qr Qt r) : ∀ n : Nat, (∀ (x0 : Nat) (x1 : Int32) (x2 : Int32) (x3 : Int32) (x4 : Int32) (h : pm_H), pm_iter sX16_chooses n (.inl (x0, x1, x2, x3, x4, h)) = some r → pm_G g 16 [(0, .ref x0), (1, .int x1), (2, .int x2), (3, .int x3), (4, .int x4)] [] h 0 0) ∧ (∀ (x0 : Nat) (x1 : Int32) (x3 : Int32) (x4 : Int32) (x5 : Int32) (h : pm_H), pm_iter sX16_chooses n (.inr (.inl (x0, x1, x3, x4, x5, h))) = some r → pm_G g 56 [(0, .ref x0), (1, .int x1), (3, .int x3), (4, .int x4), (5, .int x5)] [] h 0 0) ∧ (∀ (x0 : Nat) (x1 : Int32) (x3 : Int32) (x4 : Int32) (x5 : Int32) (x6 : Int32) (x7 : Int32) (h : pm_H), pm_iter sX16_chooses n (.inr (.inr (.inl (x0, x1, x3, x4, x5, x6, x7, h)))) = some r → pm_G g 96 [(0, .ref x0), (1, .int x1), (3, .int x3), (4, .int x4), (5, .int x5), (6, .int x6), (7, .int x7)] [] h 0 0) ∧ (∀ (x0 : Nat) (x1 : Int32) (x3 : Int32) (x4 : Int32) (x5 : Int32) (x7 : Int32) (h : pm_H), pm_iter sX16_chooses n (.inr (.inr (.inr (x0, x1, x3, x4, x5, x7, h)))) = some r → pm_G g 129 [(0, .ref x0), (1, .int x1), (3, .int x3), (4, .int x4), (5, .int x5), (7, .int x7)] [] h 0 0) := by
  intro n
  induction n with
  | zero => exact ⟨fun _ _ _ _ _ _ hf => (by cases hf), fun _ _ _ _ _ _ hf => (by cases hf), fun _ _ _ _ _ _ _ _ hf => (by cases hf), fun _ _ _ _ _ _ _ hf => (by cases hf)⟩
  | succ n ih =>
    refine ⟨fun x0 x1 x2 x3 x4 h hf => ?_, ?_⟩
    · obtain ⟨y, hf, hi⟩ := pm_iter_s hf
      have hf : tX16_chooses_16 x0 x1 x2 x3 x4 h = some y := hf
      unfold tX16_chooses_16 at hf
      refine pm_iload C dX16_chooses_16 rfl ?_
      refine pm_iload_n C dX16_chooses_18 rfl rfl ?_
      refine pm_icmp_gt (tgt := 34) C dX16_chooses_19 (by decide) (fun c7 => ?_) (fun c7 => ?_)
      · have hf := pm_it hf c7
        refine pm_aload_n C dX16_chooses_34 rfl rfl ?_
        refine pm_bipush (v := 127) C dX16_chooses_35 (by decide) ?_
        refine pm_iconst (v := 1) C dX16_chooses_37 (by decide) ?_
        obtain ⟨k8, hf⟩ := pm_if hf
        obtain ⟨v9, e10, hf⟩ := pm_bd hf
        refine pt_callVT (as := [.int 127, .int 1]) (st := []) C X dX16_chooses_38 ltX16_750 myX16_takes viX16_takes ⟨by decide, by decide⟩ rfl rfl k8 (Nat.le_of_ble_eq_true rfl) (Nat.le_refl _) (Nat.le_refl _) (ctX16_takes e10 ?_)
        rcases v9 with z12 | w11
        · have hf := pt_sl hf
          cases hf
          cases hi
          exact q
        have hf := pt_sr hf
        show pm_G g 41 [(0, .ref x0), (1, .int x1), (2, .int x2), (3, .int x3), (4, .int x4)] [] w11 0 0
        refine pm_aload_n C dX16_chooses_41 rfl rfl ?_
        refine pm_iload_n C dX16_chooses_42 rfl rfl ?_
        obtain ⟨k13, hf⟩ := pm_if hf
        obtain ⟨v14, e15, hf⟩ := pm_bd hf
        refine pt_callV (as := [.int x3]) (st := []) C X dX16_chooses_43 lnX16_704 myX16_wantedBy viX16_wantedBy ⟨by decide, by decide⟩ rfl rfl k13 (Nat.le_of_ble_eq_true rfl) (Nat.le_refl _) (Nat.le_refl _) (ctX16_wantedBy e15 ?_)
        show pm_G g 46 [(0, .ref x0), (1, .int x1), (2, .int x2), (3, .int x3), (4, .int x4)] [.int v14] w11 0 0
        refine pm_istore (lv' := [(4, .int v14), (0, .ref x0), (1, .int x1), (2, .int x2), (3, .int x3)]) C dX16_chooses_46 (pt_nl X (by decide)) rfl ?_
        refine pm_aload_n C dX16_chooses_48 rfl rfl ?_
        refine pm_iload_n C dX16_chooses_49 rfl rfl ?_
        refine pm_putI C dX16_chooses_50 flX16_594 rfl rfl k13 rfl rfl ?_
        refine pm_iconst (v := 0) C dX16_chooses_53 (by decide) ?_
        refine pm_istore (lv' := [(5, .int 0), (4, .int v14), (0, .ref x0), (1, .int x1), (2, .int x2), (3, .int x3)]) C dX16_chooses_54 (pt_nl X (by decide)) rfl ?_
        cases hf
        exact pm_sub [2, 3, 5, 1, 0] rfl (ih.2.1 x0 x1 x3 v14 0 (pm_setI w11 x0 19 x2) hi)
      · have hf := pm_ie hf c7
        refine pm_aload_n C dX16_chooses_22 rfl rfl ?_
        obtain ⟨k16, hf⟩ := pm_if hf
        obtain ⟨v17, e18, hf⟩ := pm_bd hf
        refine pt_callV (as := []) (st := []) C X dX16_chooses_23 lnX16_603 myX16_word viX16_word ⟨by decide, by decide⟩ rfl rfl k16 (Nat.le_of_ble_eq_true rfl) (Nat.le_refl _) (Nat.le_refl _) (ctX16_word e18 ?_)
        show pm_G g 26 [(0, .ref x0), (1, .int x1), (2, .int x2), (3, .int x3), (4, .int x4)] [.long v17.1] v17.2 0 0
        refine pm_l2i C dX16_chooses_26 ?_
        refine pm_istore_n (lv' := [(3, .int v17.1.toInt32), (0, .ref x0), (1, .int x1), (2, .int x2), (4, .int x4)]) C dX16_chooses_27 rfl (pt_nl X (by decide)) rfl ?_
        obtain ⟨y19, e20, hf⟩ := pm_lt hf
        refine pm_iinc (v := y19) (lv' := [(4, .int y19), (3, .int v17.1.toInt32), (0, .ref x0), (1, .int x1), (2, .int x2)]) C dX16_chooses_28 rfl ((congrArg (x4 + ·) (by decide : Int32.ofInt 1 = 1)).trans e20) (pt_nl X (by decide)) rfl ?_
        refine pm_goto (tgt := 16) C dX16_chooses_31 (by decide) ?_
        cases hf
        exact pm_sub [2, 3, 4, 1, 0] rfl (ih.1 x0 x1 x2 v17.1.toInt32 y19 v17.2 hi)
    refine ⟨fun x0 x1 x3 x4 x5 h hf => ?_, ?_⟩
    · obtain ⟨y, hf, hi⟩ := pm_iter_s hf
      have hf : tX16_chooses_56 x0 x1 x3 x4 x5 h = some y := hf
      unfold tX16_chooses_56 at hf
      refine pm_iload C dX16_chooses_56 rfl ?_
      refine pm_iload_n C dX16_chooses_58 rfl rfl ?_
      refine pm_icmp_ge (tgt := 159) C dX16_chooses_59 (by decide) (fun c21 => ?_) (fun c21 => ?_)
      · have hf := pm_it hf c21
        refine pm_aload_n C dX16_chooses_159 rfl rfl ?_
        refine pm_iload_n C dX16_chooses_160 rfl rfl ?_
        obtain ⟨k22, hf⟩ := pm_if hf
        obtain ⟨v23, e24, hf⟩ := pm_bd hf
        refine pt_callVT (as := [.int x3]) (st := []) C X dX16_chooses_161 ltX16_774 myX16_takeWanted viX16_takeWanted ⟨by decide, by decide⟩ rfl rfl k22 (Nat.le_of_ble_eq_true rfl) (Nat.le_refl _) (Nat.le_refl _) (ctX16_takeWanted e24 ?_)
        rcases v23 with z26 | w25
        · have hf := pt_sl hf
          cases hf
          cases hi
          exact q
        have hf := pt_sr hf
        show pm_G g 164 [(0, .ref x0), (1, .int x1), (3, .int x3), (4, .int x4), (5, .int x5)] [] w25 0 0
        refine pm_aload_n C dX16_chooses_164 rfl rfl ?_
        obtain ⟨k27, hf⟩ := pm_if hf
        obtain ⟨v28, e29, hf⟩ := pm_bd hf
        refine pt_callV (as := []) (st := []) C X dX16_chooses_165 lnX16_762 myX16_dies viX16_dies ⟨by decide, by decide⟩ rfl rfl k27 (Nat.le_of_ble_eq_true rfl) (Nat.le_refl _) (Nat.le_refl _) (ctX16_dies e29 ?_)
        show pm_G g 168 [(0, .ref x0), (1, .int x1), (3, .int x3), (4, .int x4), (5, .int x5)] [] v28 0 0
        cases hf
        cases hi
        exact pt_vret C X dX16_chooses_168 rfl (Nat.le_refl _) (Nat.le_refl _) q
      · have hf := pm_ie hf c21
        refine pm_aload_n C dX16_chooses_62 rfl rfl ?_
        obtain ⟨k30, hf⟩ := pm_if hf
        obtain ⟨v31, e32, hf⟩ := pm_bd hf
        refine pt_callV (as := []) (st := []) C X dX16_chooses_63 lnX16_603 myX16_word viX16_word ⟨by decide, by decide⟩ rfl rfl k30 (Nat.le_of_ble_eq_true rfl) (Nat.le_refl _) (Nat.le_refl _) (ctX16_word e32 ?_)
        show pm_G g 66 [(0, .ref x0), (1, .int x1), (3, .int x3), (4, .int x4), (5, .int x5)] [.long v31.1] v31.2 0 0
        refine pm_l2i C dX16_chooses_66 ?_
        refine pm_istore (lv' := [(6, .int v31.1.toInt32), (0, .ref x0), (1, .int x1), (3, .int x3), (4, .int x4), (5, .int x5)]) C dX16_chooses_67 (pt_nl X (by decide)) rfl ?_
        refine pm_aload_n C dX16_chooses_69 rfl rfl ?_
        refine pm_iload C dX16_chooses_70 rfl ?_
        obtain ⟨k33, hf⟩ := pm_if hf
        obtain ⟨v34, e35, hf⟩ := pm_bd hf
        refine pt_callV (as := [.int v31.1.toInt32]) (st := []) C X dX16_chooses_72 lnX16_704 myX16_wantedBy viX16_wantedBy ⟨by decide, by decide⟩ rfl rfl k33 (Nat.le_of_ble_eq_true rfl) (Nat.le_refl _) (Nat.le_refl _) (ctX16_wantedBy e35 ?_)
        show pm_G g 75 [(6, .int v31.1.toInt32), (0, .ref x0), (1, .int x1), (3, .int x3), (4, .int x4), (5, .int x5)] [.int v34] v31.2 0 0
        refine pm_iload C dX16_chooses_75 rfl ?_
        refine pm_icmp_eq (tgt := 90) C dX16_chooses_77 (by decide) (fun c36 => ?_) (fun c36 => ?_)
        · have hf := pm_it hf c36
          refine pm_iload C dX16_chooses_90 rfl ?_
          refine pm_iconst (v := 1) C dX16_chooses_92 (by decide) ?_
          refine pm_isub C dX16_chooses_93 ?_
          obtain ⟨y37, e38, hf⟩ := pm_lt hf
          refine pm_topI e38 ?_
          refine pm_istore (lv' := [(7, .int y37), (6, .int v31.1.toInt32), (0, .ref x0), (1, .int x1), (3, .int x3), (4, .int x4), (5, .int x5)]) C dX16_chooses_94 (pt_nl X (by decide)) rfl ?_
          cases hf
          exact pm_sub [2, 3, 4, 5, 6, 1, 0] rfl (ih.2.2.1 x0 x1 x3 x4 x5 v31.1.toInt32 y37 v31.2 hi)
        · have hf := pm_ie hf c36
          refine pm_aload_n C dX16_chooses_80 rfl rfl ?_
          refine pm_bipush (v := 29) C dX16_chooses_81 (by decide) ?_
          refine pm_aload_n C dX16_chooses_83 rfl rfl ?_
          refine pm_getI C dX16_chooses_84 flX16_686 rfl k33 rfl ?_
          obtain ⟨v39, e40, hf⟩ := pm_bd hf
          refine pt_callVT (as := [.int 29, .int (pm_I v31.2 x0 31)]) (st := []) C X dX16_chooses_87 ltX16_257 myX16_stops viX16_stops ⟨by decide, by decide⟩ rfl rfl k33 (Nat.le_of_ble_eq_true rfl) (Nat.le_refl _) (Nat.le_refl _) (ctX16_stops e40 ?_)
          rcases v39 with z42 | w41
          · have hf := pt_sl hf
            cases hf
            cases hi
            exact q
          have hf := pt_sr hf
          show pm_G g 90 [(6, .int v31.1.toInt32), (0, .ref x0), (1, .int x1), (3, .int x3), (4, .int x4), (5, .int x5)] [] w41 0 0
          refine pm_iload C dX16_chooses_90 rfl ?_
          refine pm_iconst (v := 1) C dX16_chooses_92 (by decide) ?_
          refine pm_isub C dX16_chooses_93 ?_
          obtain ⟨y43, e44, hf⟩ := pm_lt hf
          refine pm_topI e44 ?_
          refine pm_istore (lv' := [(7, .int y43), (6, .int v31.1.toInt32), (0, .ref x0), (1, .int x1), (3, .int x3), (4, .int x4), (5, .int x5)]) C dX16_chooses_94 (pt_nl X (by decide)) rfl ?_
          cases hf
          exact pm_sub [2, 3, 4, 5, 6, 1, 0] rfl (ih.2.2.1 x0 x1 x3 x4 x5 v31.1.toInt32 y43 w41 hi)
    refine ⟨fun x0 x1 x3 x4 x5 x6 x7 h hf => ?_, ?_⟩
    · obtain ⟨y, hf, hi⟩ := pm_iter_s hf
      have hf : tX16_chooses_96 x0 x1 x3 x4 x5 x6 x7 h = some y := hf
      unfold tX16_chooses_96 at hf
      refine pm_iload C dX16_chooses_96 rfl ?_
      refine pm_if_lt (tgt := 126) C dX16_chooses_98 (by decide) (fun c45 => ?_) (fun c45 => ?_)
      · have hf := pm_it hf c45
        refine pm_iconst (v := 0) C dX16_chooses_126 (by decide) ?_
        refine pm_istore (lv' := [(7, .int 0), (0, .ref x0), (1, .int x1), (3, .int x3), (4, .int x4), (5, .int x5), (6, .int x6)]) C dX16_chooses_127 (pt_nl X (by decide)) rfl ?_
        cases hf
        exact pm_sub [1, 2, 3, 4, 5, 0] rfl (ih.2.2.2 x0 x1 x3 x4 x5 0 h hi)
      · have hf := pm_ie hf c45
        refine pm_aload_n C dX16_chooses_101 rfl rfl ?_
        obtain ⟨k46, hf⟩ := pm_if hf
        obtain ⟨v47, e48, hf⟩ := pm_bd hf
        refine pm_getR C dX16_chooses_102 flX16_55 rfl k46 e48 ?_
        refine pm_iload C dX16_chooses_105 rfl ?_
        refine pm_aload_n C dX16_chooses_107 rfl rfl ?_
        refine pm_aload_n C dX16_chooses_108 rfl rfl ?_
        refine pm_iload C dX16_chooses_109 rfl ?_
        refine pm_iload C dX16_chooses_111 rfl ?_
        obtain ⟨v49, e50, hf⟩ := pm_bd hf
        refine pt_callV (as := [.int x6, .int x7]) (st := [.ref x0, .int x7, .ref v47]) C X dX16_chooses_113 lnX16_707 myX16_wantedAt viX16_wantedAt ⟨by decide, by decide⟩ rfl rfl k46 (Nat.le_of_ble_eq_true rfl) (Nat.le_refl _) (Nat.le_refl _) (ctX16_wantedAt e50 ?_)
        show pm_G g 116 [(0, .ref x0), (1, .int x1), (3, .int x3), (4, .int x4), (5, .int x5), (6, .int x6), (7, .int x7)] [.int v49, .ref x0, .int x7, .ref v47] h 0 0
        obtain ⟨v51, e52, hf⟩ := pm_bd hf
        refine pt_callVT (as := [.int v49]) (st := [.int x7, .ref v47]) C X dX16_chooses_116 ltX16_692 myX16_take viX16_take ⟨by decide, by decide⟩ rfl rfl k46 (Nat.le_of_ble_eq_true rfl) (Nat.le_refl _) (Nat.le_refl _) (ctX16_take e52 ?_)
        rcases v51 with z54 | w53
        · have hf := pt_sl hf
          cases hf
          cases hi
          exact q
        have hf := pt_sr hf
        show pm_G g 119 [(0, .ref x0), (1, .int x1), (3, .int x3), (4, .int x4), (5, .int x5), (6, .int x6), (7, .int x7)] [.int w53.1, .int x7, .ref v47] w53.2 0 0
        obtain ⟨k55, hf⟩ := pm_if hf
        obtain ⟨u56, hf⟩ := pm_if hf
        refine pm_iast C dX16_chooses_119 k55 u56 ?_
        obtain ⟨y57, e58, hf⟩ := pm_lt hf
        refine pm_iinc (v := y57) (lv' := [(7, .int y57), (0, .ref x0), (1, .int x1), (3, .int x3), (4, .int x4), (5, .int x5), (6, .int x6)]) C dX16_chooses_120 rfl ((congrArg (x7 + ·) (by decide : Int32.ofInt (-1) = (-1))).trans e58) (pt_nl X (by decide)) rfl ?_
        refine pm_goto (tgt := 96) C dX16_chooses_123 (by decide) ?_
        cases hf
        exact pm_sub [1, 2, 3, 4, 5, 6, 0] rfl (ih.2.2.1 x0 x1 x3 x4 x5 x6 y57 (pm_setI w53.2 v47 x7.toNatClampNeg w53.1) hi)
    refine fun x0 x1 x3 x4 x5 x7 h hf => ?_
    obtain ⟨y, hf, hi⟩ := pm_iter_s hf
    have hf : tX16_chooses_129 x0 x1 x3 x4 x5 x7 h = some y := hf
    unfold tX16_chooses_129 at hf
    refine pm_iload C dX16_chooses_129 rfl ?_
    refine pm_iload C dX16_chooses_131 rfl ?_
    refine pm_icmp_ge (tgt := 153) C dX16_chooses_133 (by decide) (fun c59 => ?_) (fun c59 => ?_)
    · have hf := pm_it hf c59
      obtain ⟨y60, e61, hf⟩ := pm_lt hf
      refine pm_iinc (v := y60) (lv' := [(5, .int y60), (0, .ref x0), (1, .int x1), (3, .int x3), (4, .int x4), (7, .int x7)]) C dX16_chooses_153 rfl ((congrArg (x5 + ·) (by decide : Int32.ofInt 1 = 1)).trans e61) (pt_nl X (by decide)) rfl ?_
      refine pm_goto (tgt := 56) C dX16_chooses_156 (by decide) ?_
      cases hf
      exact pm_sub [1, 2, 3, 4, 0] rfl (ih.2.1 x0 x1 x3 x4 y60 h hi)
    · have hf := pm_ie hf c59
      refine pm_aload_n C dX16_chooses_136 rfl rfl ?_
      refine pm_aload_n C dX16_chooses_137 rfl rfl ?_
      obtain ⟨k62, hf⟩ := pm_if hf
      obtain ⟨v63, e64, hf⟩ := pm_bd hf
      refine pm_getR C dX16_chooses_138 flX16_55 rfl k62 e64 ?_
      refine pm_iload C dX16_chooses_141 rfl ?_
      obtain ⟨k65, hf⟩ := pm_if hf
      obtain ⟨u66, hf⟩ := pm_if hf
      refine pm_iald C dX16_chooses_143 k65 u66 rfl ?_
      obtain ⟨v67, e68, hf⟩ := pm_bd hf
      refine pt_callVT (as := [.int (pm_I h v63 x7.toNatClampNeg)]) (st := []) C X dX16_chooses_144 ltX16_695 myX16_put viX16_put ⟨by decide, by decide⟩ rfl rfl k62 (Nat.le_of_ble_eq_true rfl) (Nat.le_refl _) (Nat.le_refl _) (ctX16_put e68 ?_)
      rcases v67 with z70 | w69
      · have hf := pt_sl hf
        cases hf
        cases hi
        exact q
      have hf := pt_sr hf
      show pm_G g 147 [(0, .ref x0), (1, .int x1), (3, .int x3), (4, .int x4), (5, .int x5), (7, .int x7)] [] w69 0 0
      obtain ⟨y71, e72, hf⟩ := pm_lt hf
      refine pm_iinc (v := y71) (lv' := [(7, .int y71), (0, .ref x0), (1, .int x1), (3, .int x3), (4, .int x4), (5, .int x5)]) C dX16_chooses_147 rfl ((congrArg (x7 + ·) (by decide : Int32.ofInt 1 = 1)).trans e72) (pt_nl X (by decide)) rfl ?_
      refine pm_goto (tgt := 129) C dX16_chooses_150 (by decide) ?_
      cases hf
      exact pm_sub [1, 2, 3, 4, 5, 0] rfl (ih.2.2.2 x0 x1 x3 x4 x5 y71 w69 hi)
set_option maxHeartbeats 4000000 in
set_option maxRecDepth 100000 in
theorem ctX16_chooses {l : Launch} {G : pm_Gl} {h : pm_H} {a0 : Nat} {r : ((Nat × pm_H) ⊕ pm_H)} {Qr : Option Value → pm_H → Prop} {Qt : Nat → pm_H → Prop} (hf : fX16_chooses h a0 = some r) (q : pt_eV Qr Qt r) : pm_Ctt l G mX16_chooses [.ref a0] h 0 0 Qr Qt := by
  refine pm_bodyT pnX16 (Nat.le_of_ble_eq_true rfl) (fun g C X => ?_)
  have C : pm_C g cX16_chooses RX16 := C
  show pm_G g 0 [(0, .ref a0)] [] h 0 0
  unfold fX16_chooses at hf
  refine pm_aload_n C dX16_chooses_0 rfl rfl ?_
  obtain ⟨k1, hf⟩ := pm_if hf
  obtain ⟨v2, e3, hf⟩ := pm_bd hf
  refine pt_callV (as := []) (st := []) C X dX16_chooses_1 lnX16_603 myX16_word viX16_word ⟨by decide, by decide⟩ rfl rfl k1 (Nat.le_of_ble_eq_true rfl) (Nat.le_refl _) (Nat.le_refl _) (ctX16_word e3 ?_)
  show pm_G g 4 [(0, .ref a0)] [.long v2.1] v2.2 0 0
  refine pm_l2i C dX16_chooses_4 ?_
  refine pm_istore_n (lv' := [(1, .int v2.1.toInt32), (0, .ref a0)]) C dX16_chooses_5 rfl (pt_nl X (by decide)) rfl ?_
  refine pm_aload_n C dX16_chooses_6 rfl rfl ?_
  obtain ⟨k4, hf⟩ := pm_if hf
  refine pm_getI C dX16_chooses_7 flX16_594 rfl k4 rfl ?_
  obtain ⟨y5, e6, hf⟩ := pm_lt hf
  refine pm_topI e6 ?_
  refine pm_istore_n (lv' := [(2, .int y5), (1, .int v2.1.toInt32), (0, .ref a0)]) C dX16_chooses_10 rfl (pt_nl X (by decide)) rfl ?_
  refine pm_iconst (v := 0) C dX16_chooses_11 (by decide) ?_
  refine pm_istore_n (lv' := [(3, .int 0), (2, .int y5), (1, .int v2.1.toInt32), (0, .ref a0)]) C dX16_chooses_12 rfl (pt_nl X (by decide)) rfl ?_
  refine pm_iconst (v := 0) C dX16_chooses_13 (by decide) ?_
  refine pm_istore (lv' := [(4, .int 0), (3, .int 0), (2, .int y5), (1, .int v2.1.toInt32), (0, .ref a0)]) C dX16_chooses_14 (pt_nl X (by decide)) rfl ?_
  obtain ⟨n, hn⟩ := pm_lim_iter hf
  exact pm_sub [4, 3, 2, 1, 0] rfl ((lpX16_chooses C X q n).1 a0 v2.1.toInt32 y5 0 0 v2.2 hn)
theorem dX16_ends_0 : decode cX16_ends 0 = .ok (.aload_n 0, 1) := by decide +kernel
theorem dX16_ends_1 : decode cX16_ends 1 = .ok (.getfield 682, 3) := by decide +kernel
theorem dX16_ends_4 : decode cX16_ends 4 = .ok (.iconst 1, 1) := by decide +kernel
theorem dX16_ends_5 : decode cX16_ends 5 = .ok (.isub, 1) := by decide +kernel
theorem dX16_ends_6 : decode cX16_ends 6 = .ok (.istore_n 2, 1) := by decide +kernel
theorem dX16_ends_7 : decode cX16_ends 7 = .ok (.aload_n 0, 1) := by decide +kernel
theorem dX16_ends_8 : decode cX16_ends 8 = .ok (.getfield 45, 3) := by decide +kernel
theorem dX16_ends_11 : decode cX16_ends 11 = .ok (.iload_n 2, 1) := by decide +kernel
theorem dX16_ends_12 : decode cX16_ends 12 = .ok (.laload, 1) := by decide +kernel
theorem dX16_ends_13 : decode cX16_ends 13 = .ok (.lstore_n 3, 1) := by decide +kernel
theorem dX16_ends_14 : decode cX16_ends 14 = .ok (.aload_n 0, 1) := by decide +kernel
theorem dX16_ends_15 : decode cX16_ends 15 = .ok (.lload_n 3, 1) := by decide +kernel
theorem dX16_ends_16 : decode cX16_ends 16 = .ok (.invokevirtual 780, 3) := by decide +kernel
theorem dX16_ends_19 : decode cX16_ends 19 = .ok (.aload_n 0, 1) := by decide +kernel
theorem dX16_ends_20 : decode cX16_ends 20 = .ok (.getfield 685, 3) := by decide +kernel
theorem dX16_ends_23 : decode cX16_ends 23 = .ok (.aload_n 0, 1) := by decide +kernel
theorem dX16_ends_24 : decode cX16_ends 24 = .ok (.getfield 49, 3) := by decide +kernel
theorem dX16_ends_27 : decode cX16_ends 27 = .ok (.iload_n 2, 1) := by decide +kernel
theorem dX16_ends_28 : decode cX16_ends 28 = .ok (.iaload, 1) := by decide +kernel
theorem dX16_ends_29 : decode cX16_ends 29 = .ok (.if_icmp .eq 13, 3) := by decide +kernel
theorem dX16_ends_32 : decode cX16_ends 32 = .ok (.aload_n 0, 1) := by decide +kernel
theorem dX16_ends_33 : decode cX16_ends 33 = .ok (.bipush 29, 2) := by decide +kernel
theorem dX16_ends_35 : decode cX16_ends 35 = .ok (.aload_n 0, 1) := by decide +kernel
theorem dX16_ends_36 : decode cX16_ends 36 = .ok (.getfield 686, 3) := by decide +kernel
theorem dX16_ends_39 : decode cX16_ends 39 = .ok (.invokevirtual 257, 3) := by decide +kernel
theorem dX16_ends_42 : decode cX16_ends 42 = .ok (.iload_n 1, 1) := by decide +kernel
theorem dX16_ends_43 : decode cX16_ends 43 = .ok (.iconst 5, 1) := by decide +kernel
theorem dX16_ends_44 : decode cX16_ends 44 = .ok (.if_icmp .ne 23, 3) := by decide +kernel
theorem dX16_ends_47 : decode cX16_ends 47 = .ok (.aload_n 0, 1) := by decide +kernel
theorem dX16_ends_48 : decode cX16_ends 48 = .ok (.getfield 42, 3) := by decide +kernel
theorem dX16_ends_51 : decode cX16_ends 51 = .ok (.iload_n 2, 1) := by decide +kernel
theorem dX16_ends_52 : decode cX16_ends 52 = .ok (.iconst 5, 1) := by decide +kernel
theorem dX16_ends_53 : decode cX16_ends 53 = .ok (.iastore, 1) := by decide +kernel
theorem dX16_ends_54 : decode cX16_ends 54 = .ok (.aload_n 0, 1) := by decide +kernel
theorem dX16_ends_55 : decode cX16_ends 55 = .ok (.getfield 52, 3) := by decide +kernel
theorem dX16_ends_58 : decode cX16_ends 58 = .ok (.iload_n 2, 1) := by decide +kernel
theorem dX16_ends_59 : decode cX16_ends 59 = .ok (.iconst 0, 1) := by decide +kernel
theorem dX16_ends_60 : decode cX16_ends 60 = .ok (.bastore, 1) := by decide +kernel
theorem dX16_ends_61 : decode cX16_ends 61 = .ok (.aload_n 0, 1) := by decide +kernel
theorem dX16_ends_62 : decode cX16_ends 62 = .ok (.lload_n 3, 1) := by decide +kernel
theorem dX16_ends_63 : decode cX16_ends 63 = .ok (.invokevirtual 768, 3) := by decide +kernel
theorem dX16_ends_66 : decode cX16_ends 66 = .ok (.return_, 1) := by decide +kernel
theorem dX16_ends_67 : decode cX16_ends 67 = .ok (.aload_n 0, 1) := by decide +kernel
theorem dX16_ends_68 : decode cX16_ends 68 = .ok (.getfield 42, 3) := by decide +kernel
theorem dX16_ends_71 : decode cX16_ends 71 = .ok (.iload_n 2, 1) := by decide +kernel
theorem dX16_ends_72 : decode cX16_ends 72 = .ok (.iaload, 1) := by decide +kernel
theorem dX16_ends_73 : decode cX16_ends 73 = .ok (.iconst 4, 1) := by decide +kernel
theorem dX16_ends_74 : decode cX16_ends 74 = .ok (.if_icmp .ne 16, 3) := by decide +kernel
theorem dX16_ends_77 : decode cX16_ends 77 = .ok (.aload_n 0, 1) := by decide +kernel
theorem dX16_ends_78 : decode cX16_ends 78 = .ok (.lload_n 3, 1) := by decide +kernel
theorem dX16_ends_79 : decode cX16_ends 79 = .ok (.invokevirtual 689, 3) := by decide +kernel
theorem dX16_ends_82 : decode cX16_ends 82 = .ok (.aload_n 0, 1) := by decide +kernel
theorem dX16_ends_83 : decode cX16_ends 83 = .ok (.lload_n 3, 1) := by decide +kernel
theorem dX16_ends_84 : decode cX16_ends 84 = .ok (.invokevirtual 698, 3) := by decide +kernel
theorem dX16_ends_87 : decode cX16_ends 87 = .ok (.if_icmp .ne 7, 3) := by decide +kernel
theorem dX16_ends_90 : decode cX16_ends 90 = .ok (.iconst 1, 1) := by decide +kernel
theorem dX16_ends_91 : decode cX16_ends 91 = .ok (.goto 4, 3) := by decide +kernel
theorem dX16_ends_94 : decode cX16_ends 94 = .ok (.iconst 0, 1) := by decide +kernel
theorem dX16_ends_95 : decode cX16_ends 95 = .ok (.istore 5, 2) := by decide +kernel
theorem dX16_ends_97 : decode cX16_ends 97 = .ok (.iconst 0, 1) := by decide +kernel
theorem dX16_ends_98 : decode cX16_ends 98 = .ok (.istore 6, 2) := by decide +kernel
theorem dX16_ends_100 : decode cX16_ends 100 = .ok (.iload 6, 2) := by decide +kernel
theorem dX16_ends_102 : decode cX16_ends 102 = .ok (.aload_n 0, 1) := by decide +kernel
theorem dX16_ends_103 : decode cX16_ends 103 = .ok (.lload_n 3, 1) := by decide +kernel
theorem dX16_ends_104 : decode cX16_ends 104 = .ok (.invokevirtual 689, 3) := by decide +kernel
theorem dX16_ends_107 : decode cX16_ends 107 = .ok (.if_icmp .ge 48, 3) := by decide +kernel
theorem dX16_ends_110 : decode cX16_ends 110 = .ok (.iload 5, 2) := by decide +kernel
theorem dX16_ends_112 : decode cX16_ends 112 = .ok (.ifCond .eq 43, 3) := by decide +kernel
theorem dX16_ends_115 : decode cX16_ends 115 = .ok (.aload_n 0, 1) := by decide +kernel
theorem dX16_ends_116 : decode cX16_ends 116 = .ok (.getfield 42, 3) := by decide +kernel
theorem dX16_ends_119 : decode cX16_ends 119 = .ok (.iload_n 2, 1) := by decide +kernel
theorem dX16_ends_120 : decode cX16_ends 120 = .ok (.iaload, 1) := by decide +kernel
theorem dX16_ends_121 : decode cX16_ends 121 = .ok (.iconst 4, 1) := by decide +kernel
theorem dX16_ends_122 : decode cX16_ends 122 = .ok (.if_icmp .ne 33, 3) := by decide +kernel
theorem dX16_ends_125 : decode cX16_ends 125 = .ok (.aload_n 0, 1) := by decide +kernel
theorem dX16_ends_126 : decode cX16_ends 126 = .ok (.lload_n 3, 1) := by decide +kernel
theorem dX16_ends_127 : decode cX16_ends 127 = .ok (.iload 6, 2) := by decide +kernel
theorem dX16_ends_129 : decode cX16_ends 129 = .ok (.invokevirtual 678, 3) := by decide +kernel
theorem dX16_ends_132 : decode cX16_ends 132 = .ok (.aload_n 0, 1) := by decide +kernel
theorem dX16_ends_133 : decode cX16_ends 133 = .ok (.lload_n 3, 1) := by decide +kernel
theorem dX16_ends_134 : decode cX16_ends 134 = .ok (.iload 6, 2) := by decide +kernel
theorem dX16_ends_136 : decode cX16_ends 136 = .ok (.invokevirtual 701, 3) := by decide +kernel
theorem dX16_ends_139 : decode cX16_ends 139 = .ok (.if_icmp .ne 7, 3) := by decide +kernel
theorem dX16_ends_142 : decode cX16_ends 142 = .ok (.iconst 1, 1) := by decide +kernel
theorem dX16_ends_143 : decode cX16_ends 143 = .ok (.goto 4, 3) := by decide +kernel
theorem dX16_ends_146 : decode cX16_ends 146 = .ok (.iconst 0, 1) := by decide +kernel
theorem dX16_ends_147 : decode cX16_ends 147 = .ok (.istore 5, 2) := by decide +kernel
theorem dX16_ends_149 : decode cX16_ends 149 = .ok (.iinc 6 1, 3) := by decide +kernel
theorem dX16_ends_152 : decode cX16_ends 152 = .ok (.goto (-52), 3) := by decide +kernel
theorem dX16_ends_155 : decode cX16_ends 155 = .ok (.iload 5, 2) := by decide +kernel
theorem dX16_ends_157 : decode cX16_ends 157 = .ok (.ifCond .ne 13, 3) := by decide +kernel
theorem dX16_ends_160 : decode cX16_ends 160 = .ok (.aload_n 0, 1) := by decide +kernel
theorem dX16_ends_161 : decode cX16_ends 161 = .ok (.bipush 29, 2) := by decide +kernel
theorem dX16_ends_163 : decode cX16_ends 163 = .ok (.aload_n 0, 1) := by decide +kernel
theorem dX16_ends_164 : decode cX16_ends 164 = .ok (.getfield 686, 3) := by decide +kernel
theorem dX16_ends_167 : decode cX16_ends 167 = .ok (.invokevirtual 257, 3) := by decide +kernel
theorem dX16_ends_170 : decode cX16_ends 170 = .ok (.aload_n 0, 1) := by decide +kernel
theorem dX16_ends_171 : decode cX16_ends 171 = .ok (.dup, 1) := by decide +kernel
theorem dX16_ends_172 : decode cX16_ends 172 = .ok (.getfield 682, 3) := by decide +kernel
theorem dX16_ends_175 : decode cX16_ends 175 = .ok (.iconst 1, 1) := by decide +kernel
theorem dX16_ends_176 : decode cX16_ends 176 = .ok (.isub, 1) := by decide +kernel
theorem dX16_ends_177 : decode cX16_ends 177 = .ok (.putfield 682, 3) := by decide +kernel
theorem dX16_ends_180 : decode cX16_ends 180 = .ok (.aload_n 0, 1) := by decide +kernel
theorem dX16_ends_181 : decode cX16_ends 181 = .ok (.getfield 682, 3) := by decide +kernel
theorem dX16_ends_184 : decode cX16_ends 184 = .ok (.ifCond .le 8, 3) := by decide +kernel
theorem dX16_ends_187 : decode cX16_ends 187 = .ok (.aload_n 0, 1) := by decide +kernel
theorem dX16_ends_188 : decode cX16_ends 188 = .ok (.lload_n 3, 1) := by decide +kernel
theorem dX16_ends_189 : decode cX16_ends 189 = .ok (.invokevirtual 783, 3) := by decide +kernel
theorem dX16_ends_192 : decode cX16_ends 192 = .ok (.return_, 1) := by decide +kernel
noncomputable def tX16_ends_42 (x0 : Nat) (x1 : Int32) (x2 : Int32) (x3 : Int64) (h : pm_H) : Option (((Nat × Int32 × Int32 × Int64 × pm_H) ⊕ (Nat × Int32 × Int64 × Int32 × Int32 × pm_H) ⊕ (Nat × Int64 × Int32 × pm_H)) ⊕ ((Nat × pm_H) ⊕ pm_H)) := if x1 = 5 then (if pm_kd h x0 = 16 then (pm_R h x0 25).bind fun v37 => if pm_kd h v37 = 34 then if pm_in x2 (pm_ln h v37) then (pm_R (pm_setI h v37 x2.toNatClampNeg 5) x0 28).bind fun v41 => if pm_kd (pm_setI h v37 x2.toNatClampNeg 5) v41 = 32 then if pm_in x2 (pm_ln (pm_setI h v37 x2.toNatClampNeg 5) v41) then (fX16_putParameters (pm_setI (pm_setI h v37 x2.toNatClampNeg 5) v41 x2.toNatClampNeg (vp_nar .boolean 0)) x0 x3).bind fun v45 => pt_s v45 fun w47 => some (.inr (.inr (w47))) else none else none else none else none else none) else (if pm_kd h x0 = 16 then (pm_R h x0 25).bind fun v26 => if pm_kd h v26 = 34 then if pm_in x2 (pm_ln h v26) then if (pm_I h v26 x2.toNatClampNeg) = 4 then ((fX16_parametersOf h x0 x3).bind fun v31 => (fX16_resultsOf h x0 x3).bind fun v33 => if v31 = v33 then (some (.inl (.inr (.inl ((x0, x2, x3, 1, 0, h)))))) else (some (.inl (.inr (.inl ((x0, x2, x3, 0, 0, h))))))) else (some (.inl (.inr (.inl ((x0, x2, x3, 1, 0, h)))))) else none else none else none)
noncomputable def tX16_ends_100 (x0 : Nat) (x2 : Int32) (x3 : Int64) (x5 : Int32) (x6 : Int32) (h : pm_H) : Option (((Nat × Int32 × Int32 × Int64 × pm_H) ⊕ (Nat × Int32 × Int64 × Int32 × Int32 × pm_H) ⊕ (Nat × Int64 × Int32 × pm_H)) ⊕ ((Nat × pm_H) ⊕ pm_H)) := if pm_kd h x0 = 16 then (fX16_parametersOf h x0 x3).bind fun v50 => if v50 ≤ x6 then (some (.inl (.inr (.inr ((x0, x3, x5, h)))))) else (if x5 = 0 then (some (.inl (.inr (.inr ((x0, x3, x5, h)))))) else ((pm_R h x0 25).bind fun v54 => if pm_kd h v54 = 34 then if pm_in x2 (pm_ln h v54) then if (pm_I h v54 x2.toNatClampNeg) = 4 then ((fX16_parameterAt h x0 x3 x6).bind fun v59 => (fX16_resultAt h x0 x3 x6).bind fun v61 => if v59 = v61 then (pm_let (x6 + 1) fun y66 => some (.inl (.inr (.inl ((x0, x2, x3, 1, y66, h)))))) else (pm_let (x6 + 1) fun y64 => some (.inl (.inr (.inl ((x0, x2, x3, 0, y64, h))))))) else (some (.inl (.inr (.inr ((x0, x3, x5, h)))))) else none else none)) else none
noncomputable def tX16_ends_155 (x0 : Nat) (x3 : Int64) (x5 : Int32) (h : pm_H) : Option (((Nat × Int32 × Int32 × Int64 × pm_H) ⊕ (Nat × Int32 × Int64 × Int32 × Int32 × pm_H) ⊕ (Nat × Int64 × Int32 × pm_H)) ⊕ ((Nat × pm_H) ⊕ pm_H)) := if x5 = 0 then (if pm_kd h x0 = 16 then (fX16_stops h x0 29 (pm_I h x0 31)).bind fun v78 => pt_s v78 fun w80 => if pm_kd w80 x0 = 16 then pm_let ((pm_I w80 x0 24) - 1) fun y83 => if (pm_I (pm_setI w80 x0 24 y83) x0 24) ≤ 0 then (some (.inr (.inr (pm_setI w80 x0 24 y83)))) else ((fX16_putResults (pm_setI w80 x0 24 y83) x0 x3).bind fun v86 => pt_s v86 fun w88 => some (.inr (.inr (w88)))) else none else none) else (if pm_kd h x0 = 16 then pm_let ((pm_I h x0 24) - 1) fun y70 => if (pm_I (pm_setI h x0 24 y70) x0 24) ≤ 0 then (some (.inr (.inr (pm_setI h x0 24 y70)))) else ((fX16_putResults (pm_setI h x0 24 y70) x0 x3).bind fun v73 => pt_s v73 fun w75 => some (.inr (.inr (w75)))) else none)
noncomputable def sX16_ends : ((Nat × Int32 × Int32 × Int64 × pm_H) ⊕ (Nat × Int32 × Int64 × Int32 × Int32 × pm_H) ⊕ (Nat × Int64 × Int32 × pm_H)) → Option (((Nat × Int32 × Int32 × Int64 × pm_H) ⊕ (Nat × Int32 × Int64 × Int32 × Int32 × pm_H) ⊕ (Nat × Int64 × Int32 × pm_H)) ⊕ ((Nat × pm_H) ⊕ pm_H)) := fun z => match z with
  | .inl (x0, x1, x2, x3, h) => tX16_ends_42 x0 x1 x2 x3 h
  | .inr (.inl (x0, x2, x3, x5, x6, h)) => tX16_ends_100 x0 x2 x3 x5 x6 h
  | .inr (.inr (x0, x3, x5, h)) => tX16_ends_155 x0 x3 x5 h
noncomputable def fX16_ends (h : pm_H) (a0 : Nat) (p1 : Int32) : Option ((Nat × pm_H) ⊕ pm_H) := if pm_kd h a0 = 16 then pm_let ((pm_I h a0 24) - 1) fun y2 => (pm_R h a0 26).bind fun v4 => if pm_kd h v4 = 35 then if pm_in y2 (pm_ln h v4) then pm_let (pm_L h v4 y2.toNatClampNeg) fun y8 => (fX16_takeResults h a0 y8).bind fun v10 => pt_k v10 fun w12 => if pm_kd w12 a0 = 16 then (pm_R w12 a0 27).bind fun v15 => if pm_kd w12 v15 = 34 then if pm_in y2 (pm_ln w12 v15) then if (pm_I w12 a0 23) = (pm_I w12 v15 y2.toNatClampNeg) then (pm_lim sX16_ends (.inl ((a0, p1, y2, y8, w12)))) else ((fX16_stops w12 a0 29 (pm_I w12 a0 31)).bind fun v20 => pt_k v20 fun w22 => pm_lim sX16_ends (.inl ((a0, p1, y2, y8, w22)))) else none else none else none else none else none else none
set_option maxHeartbeats 4000000 in
set_option maxRecDepth 100000 in
theorem lpX16_ends {g : pm_Gm} {l : Launch} {G : pm_Gl} {Qr : Option Value → pm_H → Prop} {Qt : Nat → pm_H → Prop} (C : pm_C g cX16_ends RX16) (X : pm_XT g l G mX16_ends 0 0 Qr Qt) {r : ((Nat × pm_H) ⊕ pm_H)} (q : pt_eV Qr Qt r) : ∀ n : Nat, (∀ (x0 : Nat) (x1 : Int32) (x2 : Int32) (x3 : Int64) (h : pm_H), pm_iter sX16_ends n (.inl (x0, x1, x2, x3, h)) = some r → pm_G g 42 [(0, .ref x0), (1, .int x1), (2, .int x2), (3, .long x3)] [] h 0 0) ∧ (∀ (x0 : Nat) (x2 : Int32) (x3 : Int64) (x5 : Int32) (x6 : Int32) (h : pm_H), pm_iter sX16_ends n (.inr (.inl (x0, x2, x3, x5, x6, h))) = some r → pm_G g 100 [(0, .ref x0), (2, .int x2), (3, .long x3), (5, .int x5), (6, .int x6)] [] h 0 0) ∧ (∀ (x0 : Nat) (x3 : Int64) (x5 : Int32) (h : pm_H), pm_iter sX16_ends n (.inr (.inr (x0, x3, x5, h))) = some r → pm_G g 155 [(0, .ref x0), (3, .long x3), (5, .int x5)] [] h 0 0) := by
  intro n
  induction n with
  | zero => exact ⟨fun _ _ _ _ _ hf => (by cases hf), fun _ _ _ _ _ _ hf => (by cases hf), fun _ _ _ _ hf => (by cases hf)⟩
  | succ n ih =>
    refine ⟨fun x0 x1 x2 x3 h hf => ?_, ?_⟩
    · obtain ⟨y, hf, hi⟩ := pm_iter_s hf
      have hf : tX16_ends_42 x0 x1 x2 x3 h = some y := hf
      unfold tX16_ends_42 at hf
      refine pm_iload_n C dX16_ends_42 rfl rfl ?_
      refine pm_iconst (v := 5) C dX16_ends_43 (by decide) ?_
      refine pm_icmp_ne (tgt := 67) C dX16_ends_44 (by decide) (fun c24 => ?_) (fun c24 => ?_)
      · have hf := pm_ie hf c24
        refine pm_aload_n C dX16_ends_67 rfl rfl ?_
        obtain ⟨k25, hf⟩ := pm_if hf
        obtain ⟨v26, e27, hf⟩ := pm_bd hf
        refine pm_getR C dX16_ends_68 flX16_42 rfl k25 e27 ?_
        refine pm_iload_n C dX16_ends_71 rfl rfl ?_
        obtain ⟨k28, hf⟩ := pm_if hf
        obtain ⟨u29, hf⟩ := pm_if hf
        refine pm_iald C dX16_ends_72 k28 u29 rfl ?_
        refine pm_iconst (v := 4) C dX16_ends_73 (by decide) ?_
        refine pm_icmp_ne (tgt := 90) C dX16_ends_74 (by decide) (fun c30 => ?_) (fun c30 => ?_)
        · have hf := pm_ie hf c30
          refine pm_iconst (v := 1) C dX16_ends_90 (by decide) ?_
          refine pm_goto (tgt := 95) C dX16_ends_91 (by decide) ?_
          refine pm_istore (lv' := [(5, .int 1), (0, .ref x0), (1, .int x1), (2, .int x2), (3, .long x3)]) C dX16_ends_95 (pt_nl X (by decide)) rfl ?_
          refine pm_iconst (v := 0) C dX16_ends_97 (by decide) ?_
          refine pm_istore (lv' := [(6, .int 0), (5, .int 1), (0, .ref x0), (1, .int x1), (2, .int x2), (3, .long x3)]) C dX16_ends_98 (pt_nl X (by decide)) rfl ?_
          cases hf
          exact pm_sub [2, 4, 5, 1, 0] rfl (ih.2.1 x0 x2 x3 1 0 h hi)
        · have hf := pm_it hf c30
          refine pm_aload_n C dX16_ends_77 rfl rfl ?_
          refine pm_lload_n C dX16_ends_78 rfl rfl ?_
          obtain ⟨v31, e32, hf⟩ := pm_bd hf
          refine pt_callV (as := [.long x3]) (st := []) C X dX16_ends_79 lnX16_689 myX16_parametersOf viX16_parametersOf ⟨by decide, by decide⟩ rfl rfl k25 (Nat.le_of_ble_eq_true rfl) (Nat.le_refl _) (Nat.le_refl _) (ctX16_parametersOf e32 ?_)
          show pm_G g 82 [(0, .ref x0), (1, .int x1), (2, .int x2), (3, .long x3)] [.int v31] h 0 0
          refine pm_aload_n C dX16_ends_82 rfl rfl ?_
          refine pm_lload_n C dX16_ends_83 rfl rfl ?_
          obtain ⟨v33, e34, hf⟩ := pm_bd hf
          refine pt_callV (as := [.long x3]) (st := [.int v31]) C X dX16_ends_84 lnX16_698 myX16_resultsOf viX16_resultsOf ⟨by decide, by decide⟩ rfl rfl k25 (Nat.le_of_ble_eq_true rfl) (Nat.le_refl _) (Nat.le_refl _) (ctX16_resultsOf e34 ?_)
          show pm_G g 87 [(0, .ref x0), (1, .int x1), (2, .int x2), (3, .long x3)] [.int v33, .int v31] h 0 0
          refine pm_icmp_ne (tgt := 94) C dX16_ends_87 (by decide) (fun c35 => ?_) (fun c35 => ?_)
          · have hf := pm_ie hf c35
            refine pm_iconst (v := 0) C dX16_ends_94 (by decide) ?_
            refine pm_istore (lv' := [(5, .int 0), (0, .ref x0), (1, .int x1), (2, .int x2), (3, .long x3)]) C dX16_ends_95 (pt_nl X (by decide)) rfl ?_
            refine pm_iconst (v := 0) C dX16_ends_97 (by decide) ?_
            refine pm_istore (lv' := [(6, .int 0), (5, .int 0), (0, .ref x0), (1, .int x1), (2, .int x2), (3, .long x3)]) C dX16_ends_98 (pt_nl X (by decide)) rfl ?_
            cases hf
            exact pm_sub [2, 4, 5, 1, 0] rfl (ih.2.1 x0 x2 x3 0 0 h hi)
          · have hf := pm_it hf c35
            refine pm_iconst (v := 1) C dX16_ends_90 (by decide) ?_
            refine pm_goto (tgt := 95) C dX16_ends_91 (by decide) ?_
            refine pm_istore (lv' := [(5, .int 1), (0, .ref x0), (1, .int x1), (2, .int x2), (3, .long x3)]) C dX16_ends_95 (pt_nl X (by decide)) rfl ?_
            refine pm_iconst (v := 0) C dX16_ends_97 (by decide) ?_
            refine pm_istore (lv' := [(6, .int 0), (5, .int 1), (0, .ref x0), (1, .int x1), (2, .int x2), (3, .long x3)]) C dX16_ends_98 (pt_nl X (by decide)) rfl ?_
            cases hf
            exact pm_sub [2, 4, 5, 1, 0] rfl (ih.2.1 x0 x2 x3 1 0 h hi)
      · have hf := pm_it hf c24
        refine pm_aload_n C dX16_ends_47 rfl rfl ?_
        obtain ⟨k36, hf⟩ := pm_if hf
        obtain ⟨v37, e38, hf⟩ := pm_bd hf
        refine pm_getR C dX16_ends_48 flX16_42 rfl k36 e38 ?_
        refine pm_iload_n C dX16_ends_51 rfl rfl ?_
        refine pm_iconst (v := 5) C dX16_ends_52 (by decide) ?_
        obtain ⟨k39, hf⟩ := pm_if hf
        obtain ⟨u40, hf⟩ := pm_if hf
        refine pm_iast C dX16_ends_53 k39 u40 ?_
        refine pm_aload_n C dX16_ends_54 rfl rfl ?_
        obtain ⟨v41, e42, hf⟩ := pm_bd hf
        refine pm_getR C dX16_ends_55 flX16_52 rfl k36 e42 ?_
        refine pm_iload_n C dX16_ends_58 rfl rfl ?_
        refine pm_iconst (v := 0) C dX16_ends_59 (by decide) ?_
        obtain ⟨k43, hf⟩ := pm_if hf
        obtain ⟨u44, hf⟩ := pm_if hf
        refine pm_zast C dX16_ends_60 k43 u44 ?_
        refine pm_aload_n C dX16_ends_61 rfl rfl ?_
        refine pm_lload_n C dX16_ends_62 rfl rfl ?_
        obtain ⟨v45, e46, hf⟩ := pm_bd hf
        refine pt_callVT (as := [.long x3]) (st := []) C X dX16_ends_63 ltX16_768 myX16_putParameters viX16_putParameters ⟨by decide, by decide⟩ rfl rfl k36 (Nat.le_of_ble_eq_true rfl) (Nat.le_refl _) (Nat.le_refl _) (ctX16_putParameters e46 ?_)
        rcases v45 with z48 | w47
        · have hf := pt_sl hf
          cases hf
          cases hi
          exact q
        have hf := pt_sr hf
        show pm_G g 66 [(0, .ref x0), (1, .int x1), (2, .int x2), (3, .long x3)] [] w47 0 0
        cases hf
        cases hi
        exact pt_vret C X dX16_ends_66 rfl (Nat.le_refl _) (Nat.le_refl _) q
    refine ⟨fun x0 x2 x3 x5 x6 h hf => ?_, ?_⟩
    · obtain ⟨y, hf, hi⟩ := pm_iter_s hf
      have hf : tX16_ends_100 x0 x2 x3 x5 x6 h = some y := hf
      unfold tX16_ends_100 at hf
      refine pm_iload C dX16_ends_100 rfl ?_
      refine pm_aload_n C dX16_ends_102 rfl rfl ?_
      refine pm_lload_n C dX16_ends_103 rfl rfl ?_
      obtain ⟨k49, hf⟩ := pm_if hf
      obtain ⟨v50, e51, hf⟩ := pm_bd hf
      refine pt_callV (as := [.long x3]) (st := [.int x6]) C X dX16_ends_104 lnX16_689 myX16_parametersOf viX16_parametersOf ⟨by decide, by decide⟩ rfl rfl k49 (Nat.le_of_ble_eq_true rfl) (Nat.le_refl _) (Nat.le_refl _) (ctX16_parametersOf e51 ?_)
      show pm_G g 107 [(0, .ref x0), (2, .int x2), (3, .long x3), (5, .int x5), (6, .int x6)] [.int v50, .int x6] h 0 0
      refine pm_icmp_ge (tgt := 155) C dX16_ends_107 (by decide) (fun c52 => ?_) (fun c52 => ?_)
      · have hf := pm_it hf c52
        cases hf
        exact pm_sub [0, 2, 3] rfl (ih.2.2 x0 x3 x5 h hi)
      · have hf := pm_ie hf c52
        refine pm_iload C dX16_ends_110 rfl ?_
        refine pm_if_eq (tgt := 155) C dX16_ends_112 (by decide) (fun c53 => ?_) (fun c53 => ?_)
        · have hf := pm_it hf c53
          cases hf
          exact pm_sub [0, 2, 3] rfl (ih.2.2 x0 x3 x5 h hi)
        · have hf := pm_ie hf c53
          refine pm_aload_n C dX16_ends_115 rfl rfl ?_
          obtain ⟨v54, e55, hf⟩ := pm_bd hf
          refine pm_getR C dX16_ends_116 flX16_42 rfl k49 e55 ?_
          refine pm_iload_n C dX16_ends_119 rfl rfl ?_
          obtain ⟨k56, hf⟩ := pm_if hf
          obtain ⟨u57, hf⟩ := pm_if hf
          refine pm_iald C dX16_ends_120 k56 u57 rfl ?_
          refine pm_iconst (v := 4) C dX16_ends_121 (by decide) ?_
          refine pm_icmp_ne (tgt := 155) C dX16_ends_122 (by decide) (fun c58 => ?_) (fun c58 => ?_)
          · have hf := pm_ie hf c58
            cases hf
            exact pm_sub [0, 2, 3] rfl (ih.2.2 x0 x3 x5 h hi)
          · have hf := pm_it hf c58
            refine pm_aload_n C dX16_ends_125 rfl rfl ?_
            refine pm_lload_n C dX16_ends_126 rfl rfl ?_
            refine pm_iload C dX16_ends_127 rfl ?_
            obtain ⟨v59, e60, hf⟩ := pm_bd hf
            refine pt_callV (as := [.long x3, .int x6]) (st := []) C X dX16_ends_129 lnX16_678 myX16_parameterAt viX16_parameterAt ⟨by decide, by decide⟩ rfl rfl k49 (Nat.le_of_ble_eq_true rfl) (Nat.le_refl _) (Nat.le_refl _) (ctX16_parameterAt e60 ?_)
            show pm_G g 132 [(0, .ref x0), (2, .int x2), (3, .long x3), (5, .int x5), (6, .int x6)] [.int v59] h 0 0
            refine pm_aload_n C dX16_ends_132 rfl rfl ?_
            refine pm_lload_n C dX16_ends_133 rfl rfl ?_
            refine pm_iload C dX16_ends_134 rfl ?_
            obtain ⟨v61, e62, hf⟩ := pm_bd hf
            refine pt_callV (as := [.long x3, .int x6]) (st := [.int v59]) C X dX16_ends_136 lnX16_701 myX16_resultAt viX16_resultAt ⟨by decide, by decide⟩ rfl rfl k49 (Nat.le_of_ble_eq_true rfl) (Nat.le_refl _) (Nat.le_refl _) (ctX16_resultAt e62 ?_)
            show pm_G g 139 [(0, .ref x0), (2, .int x2), (3, .long x3), (5, .int x5), (6, .int x6)] [.int v61, .int v59] h 0 0
            refine pm_icmp_ne (tgt := 146) C dX16_ends_139 (by decide) (fun c63 => ?_) (fun c63 => ?_)
            · have hf := pm_ie hf c63
              refine pm_iconst (v := 0) C dX16_ends_146 (by decide) ?_
              refine pm_istore (lv' := [(5, .int 0), (0, .ref x0), (2, .int x2), (3, .long x3), (6, .int x6)]) C dX16_ends_147 (pt_nl X (by decide)) rfl ?_
              obtain ⟨y64, e65, hf⟩ := pm_lt hf
              refine pm_iinc (v := y64) (lv' := [(6, .int y64), (5, .int 0), (0, .ref x0), (2, .int x2), (3, .long x3)]) C dX16_ends_149 rfl ((congrArg (x6 + ·) (by decide : Int32.ofInt 1 = 1)).trans e65) (pt_nl X (by decide)) rfl ?_
              refine pm_goto (tgt := 100) C dX16_ends_152 (by decide) ?_
              cases hf
              exact pm_sub [2, 3, 4, 1, 0] rfl (ih.2.1 x0 x2 x3 0 y64 h hi)
            · have hf := pm_it hf c63
              refine pm_iconst (v := 1) C dX16_ends_142 (by decide) ?_
              refine pm_goto (tgt := 147) C dX16_ends_143 (by decide) ?_
              refine pm_istore (lv' := [(5, .int 1), (0, .ref x0), (2, .int x2), (3, .long x3), (6, .int x6)]) C dX16_ends_147 (pt_nl X (by decide)) rfl ?_
              obtain ⟨y66, e67, hf⟩ := pm_lt hf
              refine pm_iinc (v := y66) (lv' := [(6, .int y66), (5, .int 1), (0, .ref x0), (2, .int x2), (3, .long x3)]) C dX16_ends_149 rfl ((congrArg (x6 + ·) (by decide : Int32.ofInt 1 = 1)).trans e67) (pt_nl X (by decide)) rfl ?_
              refine pm_goto (tgt := 100) C dX16_ends_152 (by decide) ?_
              cases hf
              exact pm_sub [2, 3, 4, 1, 0] rfl (ih.2.1 x0 x2 x3 1 y66 h hi)
    refine fun x0 x3 x5 h hf => ?_
    obtain ⟨y, hf, hi⟩ := pm_iter_s hf
    have hf : tX16_ends_155 x0 x3 x5 h = some y := hf
    unfold tX16_ends_155 at hf
    refine pm_iload C dX16_ends_155 rfl ?_
    refine pm_if_ne (tgt := 170) C dX16_ends_157 (by decide) (fun c68 => ?_) (fun c68 => ?_)
    · have hf := pm_ie hf c68
      refine pm_aload_n C dX16_ends_170 rfl rfl ?_
      refine pm_dup C dX16_ends_171 rfl ?_
      obtain ⟨k69, hf⟩ := pm_if hf
      refine pm_getI C dX16_ends_172 flX16_682 rfl k69 rfl ?_
      refine pm_iconst (v := 1) C dX16_ends_175 (by decide) ?_
      refine pm_isub C dX16_ends_176 ?_
      obtain ⟨y70, e71, hf⟩ := pm_lt hf
      refine pm_topI e71 ?_
      refine pm_putI C dX16_ends_177 flX16_682 rfl rfl k69 rfl rfl ?_
      refine pm_aload_n C dX16_ends_180 rfl rfl ?_
      refine pm_getI C dX16_ends_181 flX16_682 rfl k69 rfl ?_
      refine pm_if_le (tgt := 192) C dX16_ends_184 (by decide) (fun c72 => ?_) (fun c72 => ?_)
      · have hf := pm_it hf c72
        cases hf
        cases hi
        exact pt_vret C X dX16_ends_192 rfl (Nat.le_refl _) (Nat.le_refl _) q
      · have hf := pm_ie hf c72
        refine pm_aload_n C dX16_ends_187 rfl rfl ?_
        refine pm_lload_n C dX16_ends_188 rfl rfl ?_
        obtain ⟨v73, e74, hf⟩ := pm_bd hf
        refine pt_callVT (as := [.long x3]) (st := []) C X dX16_ends_189 ltX16_783 myX16_putResults viX16_putResults ⟨by decide, by decide⟩ rfl rfl k69 (Nat.le_of_ble_eq_true rfl) (Nat.le_refl _) (Nat.le_refl _) (ctX16_putResults e74 ?_)
        rcases v73 with z76 | w75
        · have hf := pt_sl hf
          cases hf
          cases hi
          exact q
        have hf := pt_sr hf
        show pm_G g 192 [(0, .ref x0), (3, .long x3), (5, .int x5)] [] w75 0 0
        cases hf
        cases hi
        exact pt_vret C X dX16_ends_192 rfl (Nat.le_refl _) (Nat.le_refl _) q
    · have hf := pm_it hf c68
      refine pm_aload_n C dX16_ends_160 rfl rfl ?_
      refine pm_bipush (v := 29) C dX16_ends_161 (by decide) ?_
      refine pm_aload_n C dX16_ends_163 rfl rfl ?_
      obtain ⟨k77, hf⟩ := pm_if hf
      refine pm_getI C dX16_ends_164 flX16_686 rfl k77 rfl ?_
      obtain ⟨v78, e79, hf⟩ := pm_bd hf
      refine pt_callVT (as := [.int 29, .int (pm_I h x0 31)]) (st := []) C X dX16_ends_167 ltX16_257 myX16_stops viX16_stops ⟨by decide, by decide⟩ rfl rfl k77 (Nat.le_of_ble_eq_true rfl) (Nat.le_refl _) (Nat.le_refl _) (ctX16_stops e79 ?_)
      rcases v78 with z81 | w80
      · have hf := pt_sl hf
        cases hf
        cases hi
        exact q
      have hf := pt_sr hf
      show pm_G g 170 [(0, .ref x0), (3, .long x3), (5, .int x5)] [] w80 0 0
      refine pm_aload_n C dX16_ends_170 rfl rfl ?_
      refine pm_dup C dX16_ends_171 rfl ?_
      obtain ⟨k82, hf⟩ := pm_if hf
      refine pm_getI C dX16_ends_172 flX16_682 rfl k82 rfl ?_
      refine pm_iconst (v := 1) C dX16_ends_175 (by decide) ?_
      refine pm_isub C dX16_ends_176 ?_
      obtain ⟨y83, e84, hf⟩ := pm_lt hf
      refine pm_topI e84 ?_
      refine pm_putI C dX16_ends_177 flX16_682 rfl rfl k82 rfl rfl ?_
      refine pm_aload_n C dX16_ends_180 rfl rfl ?_
      refine pm_getI C dX16_ends_181 flX16_682 rfl k82 rfl ?_
      refine pm_if_le (tgt := 192) C dX16_ends_184 (by decide) (fun c85 => ?_) (fun c85 => ?_)
      · have hf := pm_it hf c85
        cases hf
        cases hi
        exact pt_vret C X dX16_ends_192 rfl (Nat.le_refl _) (Nat.le_refl _) q
      · have hf := pm_ie hf c85
        refine pm_aload_n C dX16_ends_187 rfl rfl ?_
        refine pm_lload_n C dX16_ends_188 rfl rfl ?_
        obtain ⟨v86, e87, hf⟩ := pm_bd hf
        refine pt_callVT (as := [.long x3]) (st := []) C X dX16_ends_189 ltX16_783 myX16_putResults viX16_putResults ⟨by decide, by decide⟩ rfl rfl k82 (Nat.le_of_ble_eq_true rfl) (Nat.le_refl _) (Nat.le_refl _) (ctX16_putResults e87 ?_)
        rcases v86 with z89 | w88
        · have hf := pt_sl hf
          cases hf
          cases hi
          exact q
        have hf := pt_sr hf
        show pm_G g 192 [(0, .ref x0), (3, .long x3), (5, .int x5)] [] w88 0 0
        cases hf
        cases hi
        exact pt_vret C X dX16_ends_192 rfl (Nat.le_refl _) (Nat.le_refl _) q
set_option maxHeartbeats 4000000 in
set_option maxRecDepth 100000 in
theorem ctX16_ends {l : Launch} {G : pm_Gl} {h : pm_H} {a0 : Nat} {p1 : Int32} {r : ((Nat × pm_H) ⊕ pm_H)} {Qr : Option Value → pm_H → Prop} {Qt : Nat → pm_H → Prop} (hf : fX16_ends h a0 p1 = some r) (q : pt_eV Qr Qt r) : pm_Ctt l G mX16_ends [.ref a0, .int p1] h 0 0 Qr Qt := by
  refine pm_bodyT pnX16 (Nat.le_of_ble_eq_true rfl) (fun g C X => ?_)
  have C : pm_C g cX16_ends RX16 := C
  show pm_G g 0 [(0, .ref a0), (1, .int p1)] [] h 0 0
  unfold fX16_ends at hf
  refine pm_aload_n C dX16_ends_0 rfl rfl ?_
  obtain ⟨k1, hf⟩ := pm_if hf
  refine pm_getI C dX16_ends_1 flX16_682 rfl k1 rfl ?_
  refine pm_iconst (v := 1) C dX16_ends_4 (by decide) ?_
  refine pm_isub C dX16_ends_5 ?_
  obtain ⟨y2, e3, hf⟩ := pm_lt hf
  refine pm_topI e3 ?_
  refine pm_istore_n (lv' := [(2, .int y2), (0, .ref a0), (1, .int p1)]) C dX16_ends_6 rfl (pt_nl X (by decide)) rfl ?_
  refine pm_aload_n C dX16_ends_7 rfl rfl ?_
  obtain ⟨v4, e5, hf⟩ := pm_bd hf
  refine pm_getR C dX16_ends_8 flX16_45 rfl k1 e5 ?_
  refine pm_iload_n C dX16_ends_11 rfl rfl ?_
  obtain ⟨k6, hf⟩ := pm_if hf
  obtain ⟨u7, hf⟩ := pm_if hf
  refine pm_lald C dX16_ends_12 k6 u7 rfl ?_
  obtain ⟨y8, e9, hf⟩ := pm_lt hf
  refine pm_topL e9 ?_
  refine pm_lstore_n (lv' := [(3, .long y8), (2, .int y2), (0, .ref a0), (1, .int p1)]) C dX16_ends_13 rfl (pt_nl X (by decide)) rfl ?_
  refine pm_aload_n C dX16_ends_14 rfl rfl ?_
  refine pm_lload_n C dX16_ends_15 rfl rfl ?_
  obtain ⟨v10, e11, hf⟩ := pm_bd hf
  refine pt_callVT (as := [.long y8]) (st := []) C X dX16_ends_16 ltX16_780 myX16_takeResults viX16_takeResults ⟨by decide, by decide⟩ rfl rfl k1 (Nat.le_of_ble_eq_true rfl) (Nat.le_refl _) (Nat.le_refl _) (ctX16_takeResults e11 ?_)
  rcases v10 with z13 | w12
  · have hf := pt_kl hf
    cases hf
    exact q
  have hf := pt_kr hf
  show pm_G g 19 [(3, .long y8), (2, .int y2), (0, .ref a0), (1, .int p1)] [] w12 0 0
  refine pm_aload_n C dX16_ends_19 rfl rfl ?_
  obtain ⟨k14, hf⟩ := pm_if hf
  refine pm_getI C dX16_ends_20 flX16_685 rfl k14 rfl ?_
  refine pm_aload_n C dX16_ends_23 rfl rfl ?_
  obtain ⟨v15, e16, hf⟩ := pm_bd hf
  refine pm_getR C dX16_ends_24 flX16_49 rfl k14 e16 ?_
  refine pm_iload_n C dX16_ends_27 rfl rfl ?_
  obtain ⟨k17, hf⟩ := pm_if hf
  obtain ⟨u18, hf⟩ := pm_if hf
  refine pm_iald C dX16_ends_28 k17 u18 rfl ?_
  refine pm_icmp_eq (tgt := 42) C dX16_ends_29 (by decide) (fun c19 => ?_) (fun c19 => ?_)
  · have hf := pm_it hf c19
    obtain ⟨n, hn⟩ := pm_lim_iter hf
    exact pm_sub [2, 3, 1, 0] rfl ((lpX16_ends C X q n).1 a0 p1 y2 y8 w12 hn)
  · have hf := pm_ie hf c19
    refine pm_aload_n C dX16_ends_32 rfl rfl ?_
    refine pm_bipush (v := 29) C dX16_ends_33 (by decide) ?_
    refine pm_aload_n C dX16_ends_35 rfl rfl ?_
    refine pm_getI C dX16_ends_36 flX16_686 rfl k14 rfl ?_
    obtain ⟨v20, e21, hf⟩ := pm_bd hf
    refine pt_callVT (as := [.int 29, .int (pm_I w12 a0 31)]) (st := []) C X dX16_ends_39 ltX16_257 myX16_stops viX16_stops ⟨by decide, by decide⟩ rfl rfl k14 (Nat.le_of_ble_eq_true rfl) (Nat.le_refl _) (Nat.le_refl _) (ctX16_stops e21 ?_)
    rcases v20 with z23 | w22
    · have hf := pt_kl hf
      cases hf
      exact q
    have hf := pt_kr hf
    show pm_G g 42 [(3, .long y8), (2, .int y2), (0, .ref a0), (1, .int p1)] [] w22 0 0
    obtain ⟨n, hn⟩ := pm_lim_iter hf
    exact pm_sub [2, 3, 1, 0] rfl ((lpX16_ends C X q n).1 a0 p1 y2 y8 w22 hn)
