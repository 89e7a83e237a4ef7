theorem dX16_behind_0 : decode cX16_behind 0 = .ok (.aload_n 0, 1) := by decide +kernel
theorem dX16_behind_1 : decode cX16_behind 1 = .ok (.getfield 221, 3) := by decide +kernel
theorem dX16_behind_4 : decode cX16_behind 4 = .ok (.iload_n 1, 1) := by decide +kernel
theorem dX16_behind_5 : decode cX16_behind 5 = .ok (.invokevirtual 261, 3) := by decide +kernel
theorem dX16_behind_8 : decode cX16_behind 8 = .ok (.istore_n 2, 1) := by decide +kernel
theorem dX16_behind_9 : decode cX16_behind 9 = .ok (.aload_n 0, 1) := by decide +kernel
theorem dX16_behind_10 : decode cX16_behind 10 = .ok (.iload_n 1, 1) := by decide +kernel
theorem dX16_behind_11 : decode cX16_behind 11 = .ok (.iconst 1, 1) := by decide +kernel
theorem dX16_behind_12 : decode cX16_behind 12 = .ok (.iadd, 1) := by decide +kernel
theorem dX16_behind_13 : decode cX16_behind 13 = .ok (.putfield 594, 3) := by decide +kernel
theorem dX16_behind_16 : decode cX16_behind 16 = .ok (.iload_n 2, 1) := by decide +kernel
theorem dX16_behind_17 : decode cX16_behind 17 = .ok (.iconst 2, 1) := by decide +kernel
theorem dX16_behind_18 : decode cX16_behind 18 = .ok (.if_icmp .lt 16, 3) := by decide +kernel
theorem dX16_behind_21 : decode cX16_behind 21 = .ok (.iload_n 2, 1) := by decide +kernel
theorem dX16_behind_22 : decode cX16_behind 22 = .ok (.iconst 4, 1) := by decide +kernel
theorem dX16_behind_23 : decode cX16_behind 23 = .ok (.if_icmp .gt 11, 3) := by decide +kernel
theorem dX16_behind_26 : decode cX16_behind 26 = .ok (.aload_n 0, 1) := by decide +kernel
theorem dX16_behind_27 : decode cX16_behind 27 = .ok (.invokevirtual 600, 3) := by decide +kernel
theorem dX16_behind_30 : decode cX16_behind 30 = .ok (.lstore_n 3, 1) := by decide +kernel
theorem dX16_behind_31 : decode cX16_behind 31 = .ok (.goto 208, 3) := by decide +kernel
theorem dX16_behind_34 : decode cX16_behind 34 = .ok (.iload_n 2, 1) := by decide +kernel
theorem dX16_behind_35 : decode cX16_behind 35 = .ok (.invokestatic 569, 3) := by decide +kernel
theorem dX16_behind_38 : decode cX16_behind 38 = .ok (.ifCond .eq 11, 3) := by decide +kernel
theorem dX16_behind_41 : decode cX16_behind 41 = .ok (.aload_n 0, 1) := by decide +kernel
theorem dX16_behind_42 : decode cX16_behind 42 = .ok (.invokevirtual 603, 3) := by decide +kernel
theorem dX16_behind_45 : decode cX16_behind 45 = .ok (.lstore_n 3, 1) := by decide +kernel
theorem dX16_behind_46 : decode cX16_behind 46 = .ok (.goto 193, 3) := by decide +kernel
theorem dX16_behind_49 : decode cX16_behind 49 = .ok (.iload_n 2, 1) := by decide +kernel
theorem dX16_behind_50 : decode cX16_behind 50 = .ok (.invokestatic 572, 3) := by decide +kernel
theorem dX16_behind_53 : decode cX16_behind 53 = .ok (.ifCond .ne 9, 3) := by decide +kernel
theorem dX16_behind_56 : decode cX16_behind 56 = .ok (.iload_n 2, 1) := by decide +kernel
theorem dX16_behind_57 : decode cX16_behind 57 = .ok (.bipush 17, 2) := by decide +kernel
theorem dX16_behind_59 : decode cX16_behind 59 = .ok (.if_icmp .ne 17, 3) := by decide +kernel
theorem dX16_behind_62 : decode cX16_behind 62 = .ok (.aload_n 0, 1) := by decide +kernel
theorem dX16_behind_63 : decode cX16_behind 63 = .ok (.invokevirtual 603, 3) := by decide +kernel
theorem dX16_behind_66 : decode cX16_behind 66 = .ok (.lstore_n 3, 1) := by decide +kernel
theorem dX16_behind_67 : decode cX16_behind 67 = .ok (.aload_n 0, 1) := by decide +kernel
theorem dX16_behind_68 : decode cX16_behind 68 = .ok (.invokevirtual 603, 3) := by decide +kernel
theorem dX16_behind_71 : decode cX16_behind 71 = .ok (.lstore 5, 2) := by decide +kernel
theorem dX16_behind_73 : decode cX16_behind 73 = .ok (.goto 166, 3) := by decide +kernel
theorem dX16_behind_76 : decode cX16_behind 76 = .ok (.iload_n 2, 1) := by decide +kernel
theorem dX16_behind_77 : decode cX16_behind 77 = .ok (.bipush 14, 2) := by decide +kernel
theorem dX16_behind_79 : decode cX16_behind 79 = .ok (.if_icmp .ne 36, 3) := by decide +kernel
theorem dX16_behind_82 : decode cX16_behind 82 = .ok (.aload_n 0, 1) := by decide +kernel
theorem dX16_behind_83 : decode cX16_behind 83 = .ok (.invokevirtual 603, 3) := by decide +kernel
theorem dX16_behind_86 : decode cX16_behind 86 = .ok (.lstore_n 3, 1) := by decide +kernel
theorem dX16_behind_87 : decode cX16_behind 87 = .ok (.lconst 0, 1) := by decide +kernel
theorem dX16_behind_88 : decode cX16_behind 88 = .ok (.lstore 5, 2) := by decide +kernel
theorem dX16_behind_90 : decode cX16_behind 90 = .ok (.lload 5, 2) := by decide +kernel
theorem dX16_behind_92 : decode cX16_behind 92 = .ok (.lload_n 3, 1) := by decide +kernel
theorem dX16_behind_93 : decode cX16_behind 93 = .ok (.lcmp, 1) := by decide +kernel
theorem dX16_behind_94 : decode cX16_behind 94 = .ok (.ifCond .gt 18, 3) := by decide +kernel
theorem dX16_behind_97 : decode cX16_behind 97 = .ok (.aload_n 0, 1) := by decide +kernel
theorem dX16_behind_98 : decode cX16_behind 98 = .ok (.invokevirtual 603, 3) := by decide +kernel
theorem dX16_behind_101 : decode cX16_behind 101 = .ok (.lstore 7, 2) := by decide +kernel
theorem dX16_behind_103 : decode cX16_behind 103 = .ok (.lload 5, 2) := by decide +kernel
theorem dX16_behind_105 : decode cX16_behind 105 = .ok (.lconst 1, 1) := by decide +kernel
theorem dX16_behind_106 : decode cX16_behind 106 = .ok (.ladd, 1) := by decide +kernel
theorem dX16_behind_107 : decode cX16_behind 107 = .ok (.lstore 5, 2) := by decide +kernel
theorem dX16_behind_109 : decode cX16_behind 109 = .ok (.goto (-19), 3) := by decide +kernel
theorem dX16_behind_112 : decode cX16_behind 112 = .ok (.goto 127, 3) := by decide +kernel
theorem dX16_behind_115 : decode cX16_behind 115 = .ok (.iload_n 2, 1) := by decide +kernel
theorem dX16_behind_116 : decode cX16_behind 116 = .ok (.bipush 28, 2) := by decide +kernel
theorem dX16_behind_118 : decode cX16_behind 118 = .ok (.if_icmp .ne 22, 3) := by decide +kernel
theorem dX16_behind_121 : decode cX16_behind 121 = .ok (.aload_n 0, 1) := by decide +kernel
theorem dX16_behind_122 : decode cX16_behind 122 = .ok (.invokevirtual 603, 3) := by decide +kernel
theorem dX16_behind_125 : decode cX16_behind 125 = .ok (.lstore_n 3, 1) := by decide +kernel
theorem dX16_behind_126 : decode cX16_behind 126 = .ok (.aload_n 0, 1) := by decide +kernel
theorem dX16_behind_127 : decode cX16_behind 127 = .ok (.dup, 1) := by decide +kernel
theorem dX16_behind_128 : decode cX16_behind 128 = .ok (.getfield 594, 3) := by decide +kernel
theorem dX16_behind_131 : decode cX16_behind 131 = .ok (.lload_n 3, 1) := by decide +kernel
theorem dX16_behind_132 : decode cX16_behind 132 = .ok (.l2i, 1) := by decide +kernel
theorem dX16_behind_133 : decode cX16_behind 133 = .ok (.iadd, 1) := by decide +kernel
theorem dX16_behind_134 : decode cX16_behind 134 = .ok (.putfield 594, 3) := by decide +kernel
theorem dX16_behind_137 : decode cX16_behind 137 = .ok (.goto 102, 3) := by decide +kernel
theorem dX16_behind_140 : decode cX16_behind 140 = .ok (.iload_n 2, 1) := by decide +kernel
theorem dX16_behind_141 : decode cX16_behind 141 = .ok (.bipush 63, 2) := by decide +kernel
theorem dX16_behind_143 : decode cX16_behind 143 = .ok (.if_icmp .eq 16, 3) := by decide +kernel
theorem dX16_behind_146 : decode cX16_behind 146 = .ok (.iload_n 2, 1) := by decide +kernel
theorem dX16_behind_147 : decode cX16_behind 147 = .ok (.bipush 64, 2) := by decide +kernel
theorem dX16_behind_149 : decode cX16_behind 149 = .ok (.if_icmp .eq 10, 3) := by decide +kernel
theorem dX16_behind_152 : decode cX16_behind 152 = .ok (.iload_n 2, 1) := by decide +kernel
theorem dX16_behind_153 : decode cX16_behind 153 = .ok (.sipush 208, 3) := by decide +kernel
theorem dX16_behind_156 : decode cX16_behind 156 = .ok (.if_icmp .ne 16, 3) := by decide +kernel
theorem dX16_behind_159 : decode cX16_behind 159 = .ok (.aload_n 0, 1) := by decide +kernel
theorem dX16_behind_160 : decode cX16_behind 160 = .ok (.dup, 1) := by decide +kernel
theorem dX16_behind_161 : decode cX16_behind 161 = .ok (.getfield 594, 3) := by decide +kernel
theorem dX16_behind_164 : decode cX16_behind 164 = .ok (.iconst 1, 1) := by decide +kernel
theorem dX16_behind_165 : decode cX16_behind 165 = .ok (.iadd, 1) := by decide +kernel
theorem dX16_behind_166 : decode cX16_behind 166 = .ok (.putfield 594, 3) := by decide +kernel
theorem dX16_behind_169 : decode cX16_behind 169 = .ok (.goto 70, 3) := by decide +kernel
theorem dX16_behind_172 : decode cX16_behind 172 = .ok (.iload_n 2, 1) := by decide +kernel
theorem dX16_behind_173 : decode cX16_behind 173 = .ok (.bipush 65, 2) := by decide +kernel
theorem dX16_behind_175 : decode cX16_behind 175 = .ok (.if_icmp .eq 9, 3) := by decide +kernel
theorem dX16_behind_178 : decode cX16_behind 178 = .ok (.iload_n 2, 1) := by decide +kernel
theorem dX16_behind_179 : decode cX16_behind 179 = .ok (.bipush 66, 2) := by decide +kernel
theorem dX16_behind_181 : decode cX16_behind 181 = .ok (.if_icmp .ne 11, 3) := by decide +kernel
theorem dX16_behind_184 : decode cX16_behind 184 = .ok (.aload_n 0, 1) := by decide +kernel
theorem dX16_behind_185 : decode cX16_behind 185 = .ok (.invokevirtual 597, 3) := by decide +kernel
theorem dX16_behind_188 : decode cX16_behind 188 = .ok (.lstore_n 3, 1) := by decide +kernel
theorem dX16_behind_189 : decode cX16_behind 189 = .ok (.goto 50, 3) := by decide +kernel
theorem dX16_behind_192 : decode cX16_behind 192 = .ok (.iload_n 2, 1) := by decide +kernel
theorem dX16_behind_193 : decode cX16_behind 193 = .ok (.bipush 67, 2) := by decide +kernel
theorem dX16_behind_195 : decode cX16_behind 195 = .ok (.if_icmp .eq 9, 3) := by decide +kernel
theorem dX16_behind_198 : decode cX16_behind 198 = .ok (.iload_n 2, 1) := by decide +kernel
theorem dX16_behind_199 : decode cX16_behind 199 = .ok (.bipush 68, 2) := by decide +kernel
theorem dX16_behind_201 : decode cX16_behind 201 = .ok (.if_icmp .ne 27, 3) := by decide +kernel
theorem dX16_behind_204 : decode cX16_behind 204 = .ok (.aload_n 0, 1) := by decide +kernel
theorem dX16_behind_205 : decode cX16_behind 205 = .ok (.dup, 1) := by decide +kernel
theorem dX16_behind_206 : decode cX16_behind 206 = .ok (.getfield 594, 3) := by decide +kernel
theorem dX16_behind_209 : decode cX16_behind 209 = .ok (.iload_n 2, 1) := by decide +kernel
theorem dX16_behind_210 : decode cX16_behind 210 = .ok (.bipush 67, 2) := by decide +kernel
theorem dX16_behind_212 : decode cX16_behind 212 = .ok (.if_icmp .ne 7, 3) := by decide +kernel
theorem dX16_behind_215 : decode cX16_behind 215 = .ok (.iconst 4, 1) := by decide +kernel
theorem dX16_behind_216 : decode cX16_behind 216 = .ok (.goto 5, 3) := by decide +kernel
theorem dX16_behind_219 : decode cX16_behind 219 = .ok (.bipush 8, 2) := by decide +kernel
theorem dX16_behind_221 : decode cX16_behind 221 = .ok (.iadd, 1) := by decide +kernel
theorem dX16_behind_222 : decode cX16_behind 222 = .ok (.putfield 594, 3) := by decide +kernel
theorem dX16_behind_225 : decode cX16_behind 225 = .ok (.goto 14, 3) := by decide +kernel
theorem dX16_behind_228 : decode cX16_behind 228 = .ok (.iload_n 2, 1) := by decide +kernel
theorem dX16_behind_229 : decode cX16_behind 229 = .ok (.sipush 252, 3) := by decide +kernel
theorem dX16_behind_232 : decode cX16_behind 232 = .ok (.if_icmp .ne 7, 3) := by decide +kernel
theorem dX16_behind_235 : decode cX16_behind 235 = .ok (.aload_n 0, 1) := by decide +kernel
theorem dX16_behind_236 : decode cX16_behind 236 = .ok (.invokevirtual 606, 3) := by decide +kernel
theorem dX16_behind_239 : decode cX16_behind 239 = .ok (.aload_n 0, 1) := by decide +kernel
theorem dX16_behind_240 : decode cX16_behind 240 = .ok (.getfield 594, 3) := by decide +kernel
theorem dX16_behind_243 : decode cX16_behind 243 = .ok (.ireturn, 1) := by decide +kernel
noncomputable def tX16_behind_34 (x0 : Nat) (x2 : Int32) (h : pm_H) : Option (((Nat × Int32 × pm_H) ⊕ (Nat × Int32 × pm_H) ⊕ (Nat × Int64 × Int64 × pm_H)) ⊕ (Int32 × pm_H)) := pm_let (fX16_hasNumber x2) fun v14 => if v14 = 0 then (pm_let (fX16_isAccess x2) fun v17 => if v17 = 0 then (if x2 = 17 then (if pm_kd h x0 = 16 then (fX16_word h x0).bind fun v70 => if pm_kd v70.2 x0 = 16 then (fX16_word v70.2 x0).bind fun v73 => if pm_kd v73.2 x0 = 16 then some (.inr ((pm_I v73.2 x0 19, v73.2))) else none else none else none) else (if x2 = 14 then (if pm_kd h x0 = 16 then (fX16_word h x0).bind fun v67 => some (.inl (.inr (.inr ((x0, v67.1, 0, v67.2))))) else none) else (if x2 = 28 then (if pm_kd h x0 = 16 then (fX16_word h x0).bind fun v61 => if pm_kd v61.2 x0 = 16 then pm_let ((pm_I v61.2 x0 19) + v61.1.toInt32) fun y64 => some (.inr ((pm_I (pm_setI v61.2 x0 19 y64) x0 19, pm_setI v61.2 x0 19 y64))) else none else none) else (if x2 = 63 then (if pm_kd h x0 = 16 then pm_let ((pm_I h x0 19) + 1) fun y32 => some (.inr ((pm_I (pm_setI h x0 19 y32) x0 19, pm_setI h x0 19 y32))) else none) else (if x2 = 64 then (if pm_kd h x0 = 16 then pm_let ((pm_I h x0 19) + 1) fun y36 => some (.inr ((pm_I (pm_setI h x0 19 y36) x0 19, pm_setI h x0 19 y36))) else none) else (if x2 = 208 then (if pm_kd h x0 = 16 then pm_let ((pm_I h x0 19) + 1) fun y58 => some (.inr ((pm_I (pm_setI h x0 19 y58) x0 19, pm_setI h x0 19 y58))) else none) else (if x2 = 65 then (if pm_kd h x0 = 16 then (fX16_signedWord h x0).bind fun v41 => if pm_kd v41.2 x0 = 16 then some (.inr ((pm_I v41.2 x0 19, v41.2))) else none else none) else (if x2 = 66 then (if pm_kd h x0 = 16 then (fX16_signedWord h x0).bind fun v54 => if pm_kd v54.2 x0 = 16 then some (.inr ((pm_I v54.2 x0 19, v54.2))) else none else none) else (if x2 = 67 then (some (.inl (.inr (.inl ((x0, x2, h)))))) else (if x2 = 68 then (some (.inl (.inr (.inl ((x0, x2, h)))))) else (if x2 = 252 then (if pm_kd h x0 = 16 then (fX16_passesFurther h x0).bind fun v50 => if pm_kd v50 x0 = 16 then some (.inr ((pm_I v50 x0 19, v50))) else none else none) else (if pm_kd h x0 = 16 then some (.inr ((pm_I h x0 19, h))) else none)))))))))))) else (if pm_kd h x0 = 16 then (fX16_word h x0).bind fun v21 => if pm_kd v21.2 x0 = 16 then (fX16_word v21.2 x0).bind fun v24 => if pm_kd v24.2 x0 = 16 then some (.inr ((pm_I v24.2 x0 19, v24.2))) else none else none else none)) else (if pm_kd h x0 = 16 then (fX16_word h x0).bind fun v77 => if pm_kd v77.2 x0 = 16 then some (.inr ((pm_I v77.2 x0 19, v77.2))) else none else none)
noncomputable def tX16_behind_204 (x0 : Nat) (x2 : Int32) (h : pm_H) : Option (((Nat × Int32 × pm_H) ⊕ (Nat × Int32 × pm_H) ⊕ (Nat × Int64 × Int64 × pm_H)) ⊕ (Int32 × pm_H)) := if pm_kd h x0 = 16 then if x2 = 67 then (pm_let ((pm_I h x0 19) + 4) fun y84 => some (.inr ((pm_I (pm_setI h x0 19 y84) x0 19, pm_setI h x0 19 y84)))) else (pm_let ((pm_I h x0 19) + 8) fun y82 => some (.inr ((pm_I (pm_setI h x0 19 y82) x0 19, pm_setI h x0 19 y82)))) else none
noncomputable def tX16_behind_90 (x0 : Nat) (x3 : Int64) (x5 : Int64) (h : pm_H) : Option (((Nat × Int32 × pm_H) ⊕ (Nat × Int32 × pm_H) ⊕ (Nat × Int64 × Int64 × pm_H)) ⊕ (Int32 × pm_H)) := if x3 < x5 then (if pm_kd h x0 = 16 then some (.inr ((pm_I h x0 19, h))) else none) else (if pm_kd h x0 = 16 then (fX16_word h x0).bind fun v89 => pm_let (x5 + 1) fun y91 => some (.inl (.inr (.inr ((x0, x3, y91, v89.2))))) else none)
noncomputable def sX16_behind : ((Nat × Int32 × pm_H) ⊕ (Nat × Int32 × pm_H) ⊕ (Nat × Int64 × Int64 × pm_H)) → Option (((Nat × Int32 × pm_H) ⊕ (Nat × Int32 × pm_H) ⊕ (Nat × Int64 × Int64 × pm_H)) ⊕ (Int32 × pm_H)) := fun z => match z with
  | .inl (x0, x2, h) => tX16_behind_34 x0 x2 h
  | .inr (.inl (x0, x2, h)) => tX16_behind_204 x0 x2 h
  | .inr (.inr (x0, x3, x5, h)) => tX16_behind_90 x0 x3 x5 h
noncomputable def fX16_behind (h : pm_H) (a0 : Nat) (p1 : Int32) : Option (Int32 × pm_H) := if pm_kd h a0 = 16 then (pm_R h a0 10).bind fun v2 => if pm_kd h v2 = 14 then (fX14_at h v2 p1).bind fun v5 => pm_let (p1 + 1) fun y7 => if v5 < 2 then (pm_lim sX16_behind (.inl ((a0, v5, pm_setI h a0 19 y7)))) else (if 4 < v5 then (pm_lim sX16_behind (.inl ((a0, v5, pm_setI h a0 19 y7)))) else ((fX16_blockWord (pm_setI h a0 19 y7) a0).bind fun v11 => if pm_kd v11.2 a0 = 16 then some ((pm_I v11.2 a0 19, v11.2)) else none)) else none else none
set_option maxHeartbeats 4000000 in
set_option maxRecDepth 100000 in
theorem lpX16_behind {g : pm_Gm} {l : Launch} {G : pm_Gl} {Qr : Option Value → pm_H → Prop} (C : pm_C g cX16_behind RX16) (X : pm_X g l G mX16_behind 0 0 Qr) {r : (Int32 × pm_H)} (q : Qr (some (.int r.1)) r.2) : ∀ n : Nat, (∀ (x0 : Nat) (x2 : Int32) (h : pm_H), pm_iter sX16_behind n (.inl (x0, x2, h)) = some r → pm_G g 34 [(0, .ref x0), (2, .int x2)] [] h 0 0) ∧ (∀ (x0 : Nat) (x2 : Int32) (h : pm_H), pm_iter sX16_behind n (.inr (.inl (x0, x2, h))) = some r → pm_G g 204 [(0, .ref x0), (2, .int x2)] [] h 0 0) ∧ (∀ (x0 : Nat) (x3 : Int64) (x5 : Int64) (h : pm_H), pm_iter sX16_behind n (.inr (.inr (x0, x3, x5, h))) = some r → pm_G g 90 [(0, .ref x0), (3, .long x3), (5, .long x5)] [] h 0 0) := by
  intro n
  induction n with
  | zero => exact ⟨fun _ _ _ hf => (by cases hf), fun _ _ _ hf => (by cases hf), fun _ _ _ _ hf => (by cases hf)⟩
  | succ n ih =>
    refine ⟨fun x0 x2 h hf => ?_, ?_⟩
    · obtain ⟨y, hf, hi⟩ := pm_iter_s hf
      have hf : tX16_behind_34 x0 x2 h = some y := hf
      unfold tX16_behind_34 at hf
      refine pm_iload_n C dX16_behind_34 rfl rfl ?_
      obtain ⟨v14, e15, hf⟩ := pm_lt hf
      refine pm_callS (as := [.int x2]) (st := []) C X dX16_behind_35 lnX16_569 myX16_hasNumber stX16_hasNumber ⟨by decide, by decide⟩ rfl rfl (Nat.le_of_ble_eq_true rfl) (Nat.le_refl _) (Nat.le_refl _) (ctX16_hasNumber e15 ?_)
      show pm_G g 38 [(0, .ref x0), (2, .int x2)] [.int v14] h 0 0
      refine pm_if_eq (tgt := 49) C dX16_behind_38 (by decide) (fun c16 => ?_) (fun c16 => ?_)
      · have hf := pm_it hf c16
        refine pm_iload_n C dX16_behind_49 rfl rfl ?_
        obtain ⟨v17, e18, hf⟩ := pm_lt hf
        refine pm_callS (as := [.int x2]) (st := []) C X dX16_behind_50 lnX16_572 myX16_isAccess stX16_isAccess ⟨by decide, by decide⟩ rfl rfl (Nat.le_of_ble_eq_true rfl) (Nat.le_refl _) (Nat.le_refl _) (ctX16_isAccess e18 ?_)
        show pm_G g 53 [(0, .ref x0), (2, .int x2)] [.int v17] h 0 0
        refine pm_if_ne (tgt := 62) C dX16_behind_53 (by decide) (fun c19 => ?_) (fun c19 => ?_)
        · have hf := pm_ie hf c19
          refine pm_aload_n C dX16_behind_62 rfl rfl ?_
          obtain ⟨k20, hf⟩ := pm_if hf
          obtain ⟨v21, e22, hf⟩ := pm_bd hf
          refine pm_callV (as := []) (st := []) C X dX16_behind_63 lnX16_603 myX16_word viX16_word ⟨by decide, by decide⟩ rfl rfl k20 (Nat.le_of_ble_eq_true rfl) (Nat.le_refl _) (Nat.le_refl _) (ctX16_word e22 ?_)
          show pm_G g 66 [(0, .ref x0), (2, .int x2)] [.long v21.1] v21.2 0 0
          refine pm_lstore_n (lv' := [(3, .long v21.1), (0, .ref x0), (2, .int x2)]) C dX16_behind_66 rfl (pm_nl X (by decide)) rfl ?_
          refine pm_aload_n C dX16_behind_67 rfl rfl ?_
          obtain ⟨k23, hf⟩ := pm_if hf
          obtain ⟨v24, e25, hf⟩ := pm_bd hf
          refine pm_callV (as := []) (st := []) C X dX16_behind_68 lnX16_603 myX16_word viX16_word ⟨by decide, by decide⟩ rfl rfl k23 (Nat.le_of_ble_eq_true rfl) (Nat.le_refl _) (Nat.le_refl _) (ctX16_word e25 ?_)
          show pm_G g 71 [(3, .long v21.1), (0, .ref x0), (2, .int x2)] [.long v24.1] v24.2 0 0
          refine pm_lstore (lv' := [(5, .long v24.1), (3, .long v21.1), (0, .ref x0), (2, .int x2)]) C dX16_behind_71 (pm_nl X (by decide)) rfl ?_
          refine pm_goto (tgt := 239) C dX16_behind_73 (by decide) ?_
          refine pm_aload_n C dX16_behind_239 rfl rfl ?_
          obtain ⟨k26, hf⟩ := pm_if hf
          refine pm_getI C dX16_behind_240 flX16_594 rfl k26 rfl ?_
          cases hf
          cases hi
          exact pm_iret C X dX16_behind_243 rfl (Nat.le_refl _) (Nat.le_refl _) q
        · have hf := pm_it hf c19
          refine pm_iload_n C dX16_behind_56 rfl rfl ?_
          refine pm_bipush (v := 17) C dX16_behind_57 (by decide) ?_
          refine pm_icmp_ne (tgt := 76) C dX16_behind_59 (by decide) (fun c27 => ?_) (fun c27 => ?_)
          · have hf := pm_ie hf c27
            refine pm_iload_n C dX16_behind_76 rfl rfl ?_
            refine pm_bipush (v := 14) C dX16_behind_77 (by decide) ?_
            refine pm_icmp_ne (tgt := 115) C dX16_behind_79 (by decide) (fun c28 => ?_) (fun c28 => ?_)
            · have hf := pm_ie hf c28
              refine pm_iload_n C dX16_behind_115 rfl rfl ?_
              refine pm_bipush (v := 28) C dX16_behind_116 (by decide) ?_
              refine pm_icmp_ne (tgt := 140) C dX16_behind_118 (by decide) (fun c29 => ?_) (fun c29 => ?_)
              · have hf := pm_ie hf c29
                refine pm_iload_n C dX16_behind_140 rfl rfl ?_
                refine pm_bipush (v := 63) C dX16_behind_141 (by decide) ?_
                refine pm_icmp_eq (tgt := 159) C dX16_behind_143 (by decide) (fun c30 => ?_) (fun c30 => ?_)
                · have hf := pm_it hf c30
                  refine pm_aload_n C dX16_behind_159 rfl rfl ?_
                  refine pm_dup C dX16_behind_160 rfl ?_
                  obtain ⟨k31, hf⟩ := pm_if hf
                  refine pm_getI C dX16_behind_161 flX16_594 rfl k31 rfl ?_
                  refine pm_iconst (v := 1) C dX16_behind_164 (by decide) ?_
                  refine pm_iadd C dX16_behind_165 ?_
                  obtain ⟨y32, e33, hf⟩ := pm_lt hf
                  refine pm_topI e33 ?_
                  refine pm_putI C dX16_behind_166 flX16_594 rfl rfl k31 rfl rfl ?_
                  refine pm_goto (tgt := 239) C dX16_behind_169 (by decide) ?_
                  refine pm_aload_n C dX16_behind_239 rfl rfl ?_
                  refine pm_getI C dX16_behind_240 flX16_594 rfl k31 rfl ?_
                  cases hf
                  cases hi
                  exact pm_iret C X dX16_behind_243 rfl (Nat.le_refl _) (Nat.le_refl _) q
                · have hf := pm_ie hf c30
                  refine pm_iload_n C dX16_behind_146 rfl rfl ?_
                  refine pm_bipush (v := 64) C dX16_behind_147 (by decide) ?_
                  refine pm_icmp_eq (tgt := 159) C dX16_behind_149 (by decide) (fun c34 => ?_) (fun c34 => ?_)
                  · have hf := pm_it hf c34
                    refine pm_aload_n C dX16_behind_159 rfl rfl ?_
                    refine pm_dup C dX16_behind_160 rfl ?_
                    obtain ⟨k35, hf⟩ := pm_if hf
                    refine pm_getI C dX16_behind_161 flX16_594 rfl k35 rfl ?_
                    refine pm_iconst (v := 1) C dX16_behind_164 (by decide) ?_
                    refine pm_iadd C dX16_behind_165 ?_
                    obtain ⟨y36, e37, hf⟩ := pm_lt hf
                    refine pm_topI e37 ?_
                    refine pm_putI C dX16_behind_166 flX16_594 rfl rfl k35 rfl rfl ?_
                    refine pm_goto (tgt := 239) C dX16_behind_169 (by decide) ?_
                    refine pm_aload_n C dX16_behind_239 rfl rfl ?_
                    refine pm_getI C dX16_behind_240 flX16_594 rfl k35 rfl ?_
                    cases hf
                    cases hi
                    exact pm_iret C X dX16_behind_243 rfl (Nat.le_refl _) (Nat.le_refl _) q
                  · have hf := pm_ie hf c34
                    refine pm_iload_n C dX16_behind_152 rfl rfl ?_
                    refine pm_sipush (v := 208) C dX16_behind_153 (by decide) ?_
                    refine pm_icmp_ne (tgt := 172) C dX16_behind_156 (by decide) (fun c38 => ?_) (fun c38 => ?_)
                    · have hf := pm_ie hf c38
                      refine pm_iload_n C dX16_behind_172 rfl rfl ?_
                      refine pm_bipush (v := 65) C dX16_behind_173 (by decide) ?_
                      refine pm_icmp_eq (tgt := 184) C dX16_behind_175 (by decide) (fun c39 => ?_) (fun c39 => ?_)
                      · have hf := pm_it hf c39
                        refine pm_aload_n C dX16_behind_184 rfl rfl ?_
                        obtain ⟨k40, hf⟩ := pm_if hf
                        obtain ⟨v41, e42, hf⟩ := pm_bd hf
                        refine pm_callV (as := []) (st := []) C X dX16_behind_185 lnX16_597 myX16_signedWord viX16_signedWord ⟨by decide, by decide⟩ rfl rfl k40 (Nat.le_of_ble_eq_true rfl) (Nat.le_refl _) (Nat.le_refl _) (ctX16_signedWord e42 ?_)
                        show pm_G g 188 [(0, .ref x0), (2, .int x2)] [.long v41.1] v41.2 0 0
                        refine pm_lstore_n (lv' := [(3, .long v41.1), (0, .ref x0), (2, .int x2)]) C dX16_behind_188 rfl (pm_nl X (by decide)) rfl ?_
                        refine pm_goto (tgt := 239) C dX16_behind_189 (by decide) ?_
                        refine pm_aload_n C dX16_behind_239 rfl rfl ?_
                        obtain ⟨k43, hf⟩ := pm_if hf
                        refine pm_getI C dX16_behind_240 flX16_594 rfl k43 rfl ?_
                        cases hf
                        cases hi
                        exact pm_iret C X dX16_behind_243 rfl (Nat.le_refl _) (Nat.le_refl _) q
                      · have hf := pm_ie hf c39
                        refine pm_iload_n C dX16_behind_178 rfl rfl ?_
                        refine pm_bipush (v := 66) C dX16_behind_179 (by decide) ?_
                        refine pm_icmp_ne (tgt := 192) C dX16_behind_181 (by decide) (fun c44 => ?_) (fun c44 => ?_)
                        · have hf := pm_ie hf c44
                          refine pm_iload_n C dX16_behind_192 rfl rfl ?_
                          refine pm_bipush (v := 67) C dX16_behind_193 (by decide) ?_
                          refine pm_icmp_eq (tgt := 204) C dX16_behind_195 (by decide) (fun c45 => ?_) (fun c45 => ?_)
                          · have hf := pm_it hf c45
                            cases hf
                            exact pm_sub [0, 1] rfl (ih.2.1 x0 x2 h hi)
                          · have hf := pm_ie hf c45
                            refine pm_iload_n C dX16_behind_198 rfl rfl ?_
                            refine pm_bipush (v := 68) C dX16_behind_199 (by decide) ?_
                            refine pm_icmp_ne (tgt := 228) C dX16_behind_201 (by decide) (fun c46 => ?_) (fun c46 => ?_)
                            · have hf := pm_ie hf c46
                              refine pm_iload_n C dX16_behind_228 rfl rfl ?_
                              refine pm_sipush (v := 252) C dX16_behind_229 (by decide) ?_
                              refine pm_icmp_ne (tgt := 239) C dX16_behind_232 (by decide) (fun c47 => ?_) (fun c47 => ?_)
                              · have hf := pm_ie hf c47
                                refine pm_aload_n C dX16_behind_239 rfl rfl ?_
                                obtain ⟨k48, hf⟩ := pm_if hf
                                refine pm_getI C dX16_behind_240 flX16_594 rfl k48 rfl ?_
                                cases hf
                                cases hi
                                exact pm_iret C X dX16_behind_243 rfl (Nat.le_refl _) (Nat.le_refl _) q
                              · have hf := pm_it hf c47
                                refine pm_aload_n C dX16_behind_235 rfl rfl ?_
                                obtain ⟨k49, hf⟩ := pm_if hf
                                obtain ⟨v50, e51, hf⟩ := pm_bd hf
                                refine pm_callV (as := []) (st := []) C X dX16_behind_236 lnX16_606 myX16_passesFurther viX16_passesFurther ⟨by decide, by decide⟩ rfl rfl k49 (Nat.le_of_ble_eq_true rfl) (Nat.le_refl _) (Nat.le_refl _) (ctX16_passesFurther e51 ?_)
                                show pm_G g 239 [(0, .ref x0), (2, .int x2)] [] v50 0 0
                                refine pm_aload_n C dX16_behind_239 rfl rfl ?_
                                obtain ⟨k52, hf⟩ := pm_if hf
                                refine pm_getI C dX16_behind_240 flX16_594 rfl k52 rfl ?_
                                cases hf
                                cases hi
                                exact pm_iret C X dX16_behind_243 rfl (Nat.le_refl _) (Nat.le_refl _) q
                            · have hf := pm_it hf c46
                              cases hf
                              exact pm_sub [0, 1] rfl (ih.2.1 x0 x2 h hi)
                        · have hf := pm_it hf c44
                          refine pm_aload_n C dX16_behind_184 rfl rfl ?_
                          obtain ⟨k53, hf⟩ := pm_if hf
                          obtain ⟨v54, e55, hf⟩ := pm_bd hf
                          refine pm_callV (as := []) (st := []) C X dX16_behind_185 lnX16_597 myX16_signedWord viX16_signedWord ⟨by decide, by decide⟩ rfl rfl k53 (Nat.le_of_ble_eq_true rfl) (Nat.le_refl _) (Nat.le_refl _) (ctX16_signedWord e55 ?_)
                          show pm_G g 188 [(0, .ref x0), (2, .int x2)] [.long v54.1] v54.2 0 0
                          refine pm_lstore_n (lv' := [(3, .long v54.1), (0, .ref x0), (2, .int x2)]) C dX16_behind_188 rfl (pm_nl X (by decide)) rfl ?_
                          refine pm_goto (tgt := 239) C dX16_behind_189 (by decide) ?_
                          refine pm_aload_n C dX16_behind_239 rfl rfl ?_
                          obtain ⟨k56, hf⟩ := pm_if hf
                          refine pm_getI C dX16_behind_240 flX16_594 rfl k56 rfl ?_
                          cases hf
                          cases hi
                          exact pm_iret C X dX16_behind_243 rfl (Nat.le_refl _) (Nat.le_refl _) q
                    · have hf := pm_it hf c38
                      refine pm_aload_n C dX16_behind_159 rfl rfl ?_
                      refine pm_dup C dX16_behind_160 rfl ?_
                      obtain ⟨k57, hf⟩ := pm_if hf
                      refine pm_getI C dX16_behind_161 flX16_594 rfl k57 rfl ?_
                      refine pm_iconst (v := 1) C dX16_behind_164 (by decide) ?_
                      refine pm_iadd C dX16_behind_165 ?_
                      obtain ⟨y58, e59, hf⟩ := pm_lt hf
                      refine pm_topI e59 ?_
                      refine pm_putI C dX16_behind_166 flX16_594 rfl rfl k57 rfl rfl ?_
                      refine pm_goto (tgt := 239) C dX16_behind_169 (by decide) ?_
                      refine pm_aload_n C dX16_behind_239 rfl rfl ?_
                      refine pm_getI C dX16_behind_240 flX16_594 rfl k57 rfl ?_
                      cases hf
                      cases hi
                      exact pm_iret C X dX16_behind_243 rfl (Nat.le_refl _) (Nat.le_refl _) q
              · have hf := pm_it hf c29
                refine pm_aload_n C dX16_behind_121 rfl rfl ?_
                obtain ⟨k60, hf⟩ := pm_if hf
                obtain ⟨v61, e62, hf⟩ := pm_bd hf
                refine pm_callV (as := []) (st := []) C X dX16_behind_122 lnX16_603 myX16_word viX16_word ⟨by decide, by decide⟩ rfl rfl k60 (Nat.le_of_ble_eq_true rfl) (Nat.le_refl _) (Nat.le_refl _) (ctX16_word e62 ?_)
                show pm_G g 125 [(0, .ref x0), (2, .int x2)] [.long v61.1] v61.2 0 0
                refine pm_lstore_n (lv' := [(3, .long v61.1), (0, .ref x0), (2, .int x2)]) C dX16_behind_125 rfl (pm_nl X (by decide)) rfl ?_
                refine pm_aload_n C dX16_behind_126 rfl rfl ?_
                refine pm_dup C dX16_behind_127 rfl ?_
                obtain ⟨k63, hf⟩ := pm_if hf
                refine pm_getI C dX16_behind_128 flX16_594 rfl k63 rfl ?_
                refine pm_lload_n C dX16_behind_131 rfl rfl ?_
                refine pm_l2i C dX16_behind_132 ?_
                refine pm_iadd C dX16_behind_133 ?_
                obtain ⟨y64, e65, hf⟩ := pm_lt hf
                refine pm_topI e65 ?_
                refine pm_putI C dX16_behind_134 flX16_594 rfl rfl k63 rfl rfl ?_
                refine pm_goto (tgt := 239) C dX16_behind_137 (by decide) ?_
                refine pm_aload_n C dX16_behind_239 rfl rfl ?_
                refine pm_getI C dX16_behind_240 flX16_594 rfl k63 rfl ?_
                cases hf
                cases hi
                exact pm_iret C X dX16_behind_243 rfl (Nat.le_refl _) (Nat.le_refl _) q
            · have hf := pm_it hf c28
              refine pm_aload_n C dX16_behind_82 rfl rfl ?_
              obtain ⟨k66, hf⟩ := pm_if hf
              obtain ⟨v67, e68, hf⟩ := pm_bd hf
              refine pm_callV (as := []) (st := []) C X dX16_behind_83 lnX16_603 myX16_word viX16_word ⟨by decide, by decide⟩ rfl rfl k66 (Nat.le_of_ble_eq_true rfl) (Nat.le_refl _) (Nat.le_refl _) (ctX16_word e68 ?_)
              show pm_G g 86 [(0, .ref x0), (2, .int x2)] [.long v67.1] v67.2 0 0
              refine pm_lstore_n (lv' := [(3, .long v67.1), (0, .ref x0), (2, .int x2)]) C dX16_behind_86 rfl (pm_nl X (by decide)) rfl ?_
              refine pm_lconst (v := 0) C dX16_behind_87 (by decide) ?_
              refine pm_lstore (lv' := [(5, .long 0), (3, .long v67.1), (0, .ref x0), (2, .int x2)]) C dX16_behind_88 (pm_nl X (by decide)) rfl ?_
              cases hf
              exact pm_sub [2, 1, 0] rfl (ih.2.2 x0 v67.1 0 v67.2 hi)
          · have hf := pm_it hf c27
            refine pm_aload_n C dX16_behind_62 rfl rfl ?_
            obtain ⟨k69, hf⟩ := pm_if hf
            obtain ⟨v70, e71, hf⟩ := pm_bd hf
            refine pm_callV (as := []) (st := []) C X dX16_behind_63 lnX16_603 myX16_word viX16_word ⟨by decide, by decide⟩ rfl rfl k69 (Nat.le_of_ble_eq_true rfl) (Nat.le_refl _) (Nat.le_refl _) (ctX16_word e71 ?_)
            show pm_G g 66 [(0, .ref x0), (2, .int x2)] [.long v70.1] v70.2 0 0
            refine pm_lstore_n (lv' := [(3, .long v70.1), (0, .ref x0), (2, .int x2)]) C dX16_behind_66 rfl (pm_nl X (by decide)) rfl ?_
            refine pm_aload_n C dX16_behind_67 rfl rfl ?_
            obtain ⟨k72, hf⟩ := pm_if hf
            obtain ⟨v73, e74, hf⟩ := pm_bd hf
            refine pm_callV (as := []) (st := []) C X dX16_behind_68 lnX16_603 myX16_word viX16_word ⟨by decide, by decide⟩ rfl rfl k72 (Nat.le_of_ble_eq_true rfl) (Nat.le_refl _) (Nat.le_refl _) (ctX16_word e74 ?_)
            show pm_G g 71 [(3, .long v70.1), (0, .ref x0), (2, .int x2)] [.long v73.1] v73.2 0 0
            refine pm_lstore (lv' := [(5, .long v73.1), (3, .long v70.1), (0, .ref x0), (2, .int x2)]) C dX16_behind_71 (pm_nl X (by decide)) rfl ?_
            refine pm_goto (tgt := 239) C dX16_behind_73 (by decide) ?_
            refine pm_aload_n C dX16_behind_239 rfl rfl ?_
            obtain ⟨k75, hf⟩ := pm_if hf
            refine pm_getI C dX16_behind_240 flX16_594 rfl k75 rfl ?_
            cases hf
            cases hi
            exact pm_iret C X dX16_behind_243 rfl (Nat.le_refl _) (Nat.le_refl _) q
      · have hf := pm_ie hf c16
        refine pm_aload_n C dX16_behind_41 rfl rfl ?_
        obtain ⟨k76, hf⟩ := pm_if hf
        obtain ⟨v77, e78, hf⟩ := pm_bd hf
        refine pm_callV (as := []) (st := []) C X dX16_behind_42 lnX16_603 myX16_word viX16_word ⟨by decide, by decide⟩ rfl rfl k76 (Nat.le_of_ble_eq_true rfl) (Nat.le_refl _) (Nat.le_refl _) (ctX16_word e78 ?_)
        show pm_G g 45 [(0, .ref x0), (2, .int x2)] [.long v77.1] v77.2 0 0
        refine pm_lstore_n (lv' := [(3, .long v77.1), (0, .ref x0), (2, .int x2)]) C dX16_behind_45 rfl (pm_nl X (by decide)) rfl ?_
        refine pm_goto (tgt := 239) C dX16_behind_46 (by decide) ?_
        refine pm_aload_n C dX16_behind_239 rfl rfl ?_
        obtain ⟨k79, hf⟩ := pm_if hf
        refine pm_getI C dX16_behind_240 flX16_594 rfl k79 rfl ?_
        cases hf
        cases hi
        exact pm_iret C X dX16_behind_243 rfl (Nat.le_refl _) (Nat.le_refl _) q
    refine ⟨fun x0 x2 h hf => ?_, ?_⟩
    · obtain ⟨y, hf, hi⟩ := pm_iter_s hf
      have hf : tX16_behind_204 x0 x2 h = some y := hf
      unfold tX16_behind_204 at hf
      refine pm_aload_n C dX16_behind_204 rfl rfl ?_
      refine pm_dup C dX16_behind_205 rfl ?_
      obtain ⟨k80, hf⟩ := pm_if hf
      refine pm_getI C dX16_behind_206 flX16_594 rfl k80 rfl ?_
      refine pm_iload_n C dX16_behind_209 rfl rfl ?_
      refine pm_bipush (v := 67) C dX16_behind_210 (by decide) ?_
      refine pm_icmp_ne (tgt := 219) C dX16_behind_212 (by decide) (fun c81 => ?_) (fun c81 => ?_)
      · have hf := pm_ie hf c81
        refine pm_bipush (v := 8) C dX16_behind_219 (by decide) ?_
        refine pm_iadd C dX16_behind_221 ?_
        obtain ⟨y82, e83, hf⟩ := pm_lt hf
        refine pm_topI e83 ?_
        refine pm_putI C dX16_behind_222 flX16_594 rfl rfl k80 rfl rfl ?_
        refine pm_goto (tgt := 239) C dX16_behind_225 (by decide) ?_
        refine pm_aload_n C dX16_behind_239 rfl rfl ?_
        refine pm_getI C dX16_behind_240 flX16_594 rfl k80 rfl ?_
        cases hf
        cases hi
        exact pm_iret C X dX16_behind_243 rfl (Nat.le_refl _) (Nat.le_refl _) q
      · have hf := pm_it hf c81
        refine pm_iconst (v := 4) C dX16_behind_215 (by decide) ?_
        refine pm_goto (tgt := 221) C dX16_behind_216 (by decide) ?_
        refine pm_iadd C dX16_behind_221 ?_
        obtain ⟨y84, e85, hf⟩ := pm_lt hf
        refine pm_topI e85 ?_
        refine pm_putI C dX16_behind_222 flX16_594 rfl rfl k80 rfl rfl ?_
        refine pm_goto (tgt := 239) C dX16_behind_225 (by decide) ?_
        refine pm_aload_n C dX16_behind_239 rfl rfl ?_
        refine pm_getI C dX16_behind_240 flX16_594 rfl k80 rfl ?_
        cases hf
        cases hi
        exact pm_iret C X dX16_behind_243 rfl (Nat.le_refl _) (Nat.le_refl _) q
    refine fun x0 x3 x5 h hf => ?_
    obtain ⟨y, hf, hi⟩ := pm_iter_s hf
    have hf : tX16_behind_90 x0 x3 x5 h = some y := hf
    unfold tX16_behind_90 at hf
    refine pm_lload C dX16_behind_90 rfl ?_
    refine pm_lload_n C dX16_behind_92 rfl rfl ?_
    refine pm_lcmp C dX16_behind_93 ?_
    refine pm_if_gt (tgt := 112) C dX16_behind_94 (by decide) (fun c86 => ?_) (fun c86 => ?_)
    · have hf := pm_it hf ((pm_lg_gt _ _).mp c86)
      refine pm_goto (tgt := 239) C dX16_behind_112 (by decide) ?_
      refine pm_aload_n C dX16_behind_239 rfl rfl ?_
      obtain ⟨k87, hf⟩ := pm_if hf
      refine pm_getI C dX16_behind_240 flX16_594 rfl k87 rfl ?_
      cases hf
      cases hi
      exact pm_iret C X dX16_behind_243 rfl (Nat.le_refl _) (Nat.le_refl _) q
    · have hf := pm_ie hf ((fun z => c86 ((pm_lg_gt _ _).mpr z)))
      refine pm_aload_n C dX16_behind_97 rfl rfl ?_
      obtain ⟨k88, hf⟩ := pm_if hf
      obtain ⟨v89, e90, hf⟩ := pm_bd hf
      refine pm_callV (as := []) (st := []) C X dX16_behind_98 lnX16_603 myX16_word viX16_word ⟨by decide, by decide⟩ rfl rfl k88 (Nat.le_of_ble_eq_true rfl) (Nat.le_refl _) (Nat.le_refl _) (ctX16_word e90 ?_)
      show pm_G g 101 [(0, .ref x0), (3, .long x3), (5, .long x5)] [.long v89.1] v89.2 0 0
      refine pm_lstore (lv' := [(7, .long v89.1), (0, .ref x0), (3, .long x3), (5, .long x5)]) C dX16_behind_101 (pm_nl X (by decide)) rfl ?_
      refine pm_lload C dX16_behind_103 rfl ?_
      refine pm_lconst (v := 1) C dX16_behind_105 (by decide) ?_
      refine pm_ladd C dX16_behind_106 ?_
      obtain ⟨y91, e92, hf⟩ := pm_lt hf
      refine pm_topL e92 ?_
      refine pm_lstore (lv' := [(5, .long y91), (7, .long v89.1), (0, .ref x0), (3, .long x3)]) C dX16_behind_107 (pm_nl X (by decide)) rfl ?_
      refine pm_goto (tgt := 90) C dX16_behind_109 (by decide) ?_
      cases hf
      exact pm_sub [2, 3, 0] rfl (ih.2.2 x0 x3 y91 v89.2 hi)
set_option maxHeartbeats 4000000 in
set_option maxRecDepth 100000 in
theorem ctX16_behind {l : Launch} {G : pm_Gl} {h : pm_H} {a0 : Nat} {p1 : Int32} {r : (Int32 × pm_H)} {Qr : Option Value → pm_H → Prop} (hf : fX16_behind h a0 p1 = some r) (q : Qr (some (.int r.1)) r.2) : pm_Ct l G mX16_behind [.ref a0, .int p1] h 0 0 Qr := by
  refine pm_body pnX16 (Nat.le_of_ble_eq_true rfl) (fun g C X => ?_)
  have C : pm_C g cX16_behind RX16 := C
  show pm_G g 0 [(0, .ref a0), (1, .int p1)] [] h 0 0
  unfold fX16_behind at hf
  refine pm_aload_n C dX16_behind_0 rfl rfl ?_
  obtain ⟨k1, hf⟩ := pm_if hf
  obtain ⟨v2, e3, hf⟩ := pm_bd hf
  refine pm_getR C dX16_behind_1 flX16_221 rfl k1 e3 ?_
  refine pm_iload_n C dX16_behind_4 rfl rfl ?_
  obtain ⟨k4, hf⟩ := pm_if hf
  obtain ⟨v5, e6, hf⟩ := pm_bd hf
  refine pm_callV (as := [.int p1]) (st := []) C X dX16_behind_5 lnX16_261 myX14_at viX14_at ⟨by decide, by decide⟩ rfl rfl k4 (Nat.le_of_ble_eq_true rfl) (Nat.le_refl _) (Nat.le_refl _) (ctX14_at e6 ?_)
  show pm_G g 8 [(0, .ref a0), (1, .int p1)] [.int v5] h 0 0
  refine pm_istore_n (lv' := [(2, .int v5), (0, .ref a0), (1, .int p1)]) C dX16_behind_8 rfl (pm_nl X (by decide)) rfl ?_
  refine pm_aload_n C dX16_behind_9 rfl rfl ?_
  refine pm_iload_n C dX16_behind_10 rfl rfl ?_
  refine pm_iconst (v := 1) C dX16_behind_11 (by decide) ?_
  refine pm_iadd C dX16_behind_12 ?_
  obtain ⟨y7, e8, hf⟩ := pm_lt hf
  refine pm_topI e8 ?_
  refine pm_putI C dX16_behind_13 flX16_594 rfl rfl k1 rfl rfl ?_
  refine pm_iload_n C dX16_behind_16 rfl rfl ?_
  refine pm_iconst (v := 2) C dX16_behind_17 (by decide) ?_
  refine pm_icmp_lt (tgt := 34) C dX16_behind_18 (by decide) (fun c9 => ?_) (fun c9 => ?_)
  · have hf := pm_it hf c9
    obtain ⟨n, hn⟩ := pm_lim_iter hf
    exact pm_sub [1, 0] rfl ((lpX16_behind C X q n).1 a0 v5 (pm_setI h a0 19 y7) hn)
  · have hf := pm_ie hf c9
    refine pm_iload_n C dX16_behind_21 rfl rfl ?_
    refine pm_iconst (v := 4) C dX16_behind_22 (by decide) ?_
    refine pm_icmp_gt (tgt := 34) C dX16_behind_23 (by decide) (fun c10 => ?_) (fun c10 => ?_)
    · have hf := pm_it hf c10
      obtain ⟨n, hn⟩ := pm_lim_iter hf
      exact pm_sub [1, 0] rfl ((lpX16_behind C X q n).1 a0 v5 (pm_setI h a0 19 y7) hn)
    · have hf := pm_ie hf c10
      refine pm_aload_n C dX16_behind_26 rfl rfl ?_
      obtain ⟨v11, e12, hf⟩ := pm_bd hf
      refine pm_callV (as := []) (st := []) C X dX16_behind_27 lnX16_600 myX16_blockWord viX16_blockWord ⟨by decide, by decide⟩ rfl rfl k1 (Nat.le_of_ble_eq_true rfl) (Nat.le_refl _) (Nat.le_refl _) (ctX16_blockWord e12 ?_)
      show pm_G g 30 [(2, .int v5), (0, .ref a0), (1, .int p1)] [.long v11.1] v11.2 0 0
      refine pm_lstore_n (lv' := [(3, .long v11.1), (2, .int v5), (0, .ref a0), (1, .int p1)]) C dX16_behind_30 rfl (pm_nl X (by decide)) rfl ?_
      refine pm_goto (tgt := 239) C dX16_behind_31 (by decide) ?_
      refine pm_aload_n C dX16_behind_239 rfl rfl ?_
      obtain ⟨k13, hf⟩ := pm_if hf
      refine pm_getI C dX16_behind_240 flX16_594 rfl k13 rfl ?_
      cases hf
      exact pm_iret C X dX16_behind_243 rfl (Nat.le_refl _) (Nat.le_refl _) q
theorem dX16_declaresIn_0 : decode cX16_declaresIn 0 = .ok (.iload_n 1, 1) := by decide +kernel
theorem dX16_declaresIn_1 : decode cX16_declaresIn 1 = .ok (.istore_n 2, 1) := by decide +kernel
theorem dX16_declaresIn_2 : decode cX16_declaresIn 2 = .ok (.aload_n 0, 1) := by decide +kernel
theorem dX16_declaresIn_3 : decode cX16_declaresIn 3 = .ok (.getfield 221, 3) := by decide +kernel
theorem dX16_declaresIn_6 : decode cX16_declaresIn 6 = .ok (.iload_n 2, 1) := by decide +kernel
theorem dX16_declaresIn_7 : decode cX16_declaresIn 7 = .ok (.invokevirtual 261, 3) := by decide +kernel
theorem dX16_declaresIn_10 : decode cX16_declaresIn 10 = .ok (.bipush 11, 2) := by decide +kernel
theorem dX16_declaresIn_12 : decode cX16_declaresIn 12 = .ok (.if_icmp .ne 10, 3) := by decide +kernel
theorem dX16_declaresIn_15 : decode cX16_declaresIn 15 = .ok (.aload_n 0, 1) := by decide +kernel
theorem dX16_declaresIn_16 : decode cX16_declaresIn 16 = .ok (.getfield 648, 3) := by decide +kernel
theorem dX16_declaresIn_19 : decode cX16_declaresIn 19 = .ok (.ifCond .le 77, 3) := by decide +kernel
theorem dX16_declaresIn_22 : decode cX16_declaresIn 22 = .ok (.aload_n 0, 1) := by decide +kernel
theorem dX16_declaresIn_23 : decode cX16_declaresIn 23 = .ok (.getfield 221, 3) := by decide +kernel
theorem dX16_declaresIn_26 : decode cX16_declaresIn 26 = .ok (.iload_n 2, 1) := by decide +kernel
theorem dX16_declaresIn_27 : decode cX16_declaresIn 27 = .ok (.invokevirtual 261, 3) := by decide +kernel
theorem dX16_declaresIn_30 : decode cX16_declaresIn 30 = .ok (.istore_n 3, 1) := by decide +kernel
theorem dX16_declaresIn_31 : decode cX16_declaresIn 31 = .ok (.aload_n 0, 1) := by decide +kernel
theorem dX16_declaresIn_32 : decode cX16_declaresIn 32 = .ok (.dup, 1) := by decide +kernel
theorem dX16_declaresIn_33 : decode cX16_declaresIn 33 = .ok (.getfield 648, 3) := by decide +kernel
theorem dX16_declaresIn_36 : decode cX16_declaresIn 36 = .ok (.iload_n 3, 1) := by decide +kernel
theorem dX16_declaresIn_37 : decode cX16_declaresIn 37 = .ok (.iconst 2, 1) := by decide +kernel
theorem dX16_declaresIn_38 : decode cX16_declaresIn 38 = .ok (.if_icmp .lt 12, 3) := by decide +kernel
theorem dX16_declaresIn_41 : decode cX16_declaresIn 41 = .ok (.iload_n 3, 1) := by decide +kernel
theorem dX16_declaresIn_42 : decode cX16_declaresIn 42 = .ok (.iconst 4, 1) := by decide +kernel
theorem dX16_declaresIn_43 : decode cX16_declaresIn 43 = .ok (.if_icmp .gt 7, 3) := by decide +kernel
theorem dX16_declaresIn_46 : decode cX16_declaresIn 46 = .ok (.iconst 1, 1) := by decide +kernel
theorem dX16_declaresIn_47 : decode cX16_declaresIn 47 = .ok (.goto 14, 3) := by decide +kernel
theorem dX16_declaresIn_50 : decode cX16_declaresIn 50 = .ok (.iload_n 3, 1) := by decide +kernel
theorem dX16_declaresIn_51 : decode cX16_declaresIn 51 = .ok (.bipush 11, 2) := by decide +kernel
theorem dX16_declaresIn_53 : decode cX16_declaresIn 53 = .ok (.if_icmp .ne 7, 3) := by decide +kernel
theorem dX16_declaresIn_56 : decode cX16_declaresIn 56 = .ok (.iconst (-1), 1) := by decide +kernel
theorem dX16_declaresIn_57 : decode cX16_declaresIn 57 = .ok (.goto 4, 3) := by decide +kernel
theorem dX16_declaresIn_60 : decode cX16_declaresIn 60 = .ok (.iconst 0, 1) := by decide +kernel
theorem dX16_declaresIn_61 : decode cX16_declaresIn 61 = .ok (.iadd, 1) := by decide +kernel
theorem dX16_declaresIn_62 : decode cX16_declaresIn 62 = .ok (.putfield 648, 3) := by decide +kernel
theorem dX16_declaresIn_65 : decode cX16_declaresIn 65 = .ok (.aload_n 0, 1) := by decide +kernel
theorem dX16_declaresIn_66 : decode cX16_declaresIn 66 = .ok (.iload_n 2, 1) := by decide +kernel
theorem dX16_declaresIn_67 : decode cX16_declaresIn 67 = .ok (.iconst 1, 1) := by decide +kernel
theorem dX16_declaresIn_68 : decode cX16_declaresIn 68 = .ok (.iadd, 1) := by decide +kernel
theorem dX16_declaresIn_69 : decode cX16_declaresIn 69 = .ok (.putfield 594, 3) := by decide +kernel
theorem dX16_declaresIn_72 : decode cX16_declaresIn 72 = .ok (.iload_n 3, 1) := by decide +kernel
theorem dX16_declaresIn_73 : decode cX16_declaresIn 73 = .ok (.sipush 210, 3) := by decide +kernel
theorem dX16_declaresIn_76 : decode cX16_declaresIn 76 = .ok (.if_icmp .ne 11, 3) := by decide +kernel
theorem dX16_declaresIn_79 : decode cX16_declaresIn 79 = .ok (.aload_n 0, 1) := by decide +kernel
theorem dX16_declaresIn_80 : decode cX16_declaresIn 80 = .ok (.aload_n 0, 1) := by decide +kernel
theorem dX16_declaresIn_81 : decode cX16_declaresIn 81 = .ok (.invokevirtual 603, 3) := by decide +kernel
theorem dX16_declaresIn_84 : decode cX16_declaresIn 84 = .ok (.invokevirtual 651, 3) := by decide +kernel
theorem dX16_declaresIn_87 : decode cX16_declaresIn 87 = .ok (.aload_n 0, 1) := by decide +kernel
theorem dX16_declaresIn_88 : decode cX16_declaresIn 88 = .ok (.iload_n 2, 1) := by decide +kernel
theorem dX16_declaresIn_89 : decode cX16_declaresIn 89 = .ok (.invokevirtual 655, 3) := by decide +kernel
theorem dX16_declaresIn_92 : decode cX16_declaresIn 92 = .ok (.istore_n 2, 1) := by decide +kernel
theorem dX16_declaresIn_93 : decode cX16_declaresIn 93 = .ok (.goto (-91), 3) := by decide +kernel
theorem dX16_declaresIn_96 : decode cX16_declaresIn 96 = .ok (.aload_n 0, 1) := by decide +kernel
theorem dX16_declaresIn_97 : decode cX16_declaresIn 97 = .ok (.iload_n 2, 1) := by decide +kernel
theorem dX16_declaresIn_98 : decode cX16_declaresIn 98 = .ok (.iconst 1, 1) := by decide +kernel
theorem dX16_declaresIn_99 : decode cX16_declaresIn 99 = .ok (.iadd, 1) := by decide +kernel
theorem dX16_declaresIn_100 : decode cX16_declaresIn 100 = .ok (.putfield 594, 3) := by decide +kernel
theorem dX16_declaresIn_103 : decode cX16_declaresIn 103 = .ok (.return_, 1) := by decide +kernel
noncomputable def tX16_declaresIn_2 (x0 : Nat) (x2 : Int32) (h : pm_H) : Option (((Nat × Int32 × pm_H) ⊕ (Nat × Int32 × pm_H) ⊕ (Nat × Int32 × Int32 × Int32 × Nat × pm_H) ⊕ (Nat × Int32 × Int32 × Int32 × Int32 × Nat × pm_H)) ⊕ pm_H) := if pm_kd h x0 = 16 then (pm_R h x0 10).bind fun v2 => if pm_kd h v2 = 14 then (fX14_at h v2 x2).bind fun v5 => if v5 = 11 then (if (pm_I h x0 21) ≤ 0 then (pm_let (x2 + 1) fun y9 => some (.inr (pm_setI h x0 19 y9))) else (some (.inl (.inr (.inl ((x0, x2, h))))))) else (some (.inl (.inr (.inl ((x0, x2, h)))))) else none else none
noncomputable def tX16_declaresIn_22 (x0 : Nat) (x2 : Int32) (h : pm_H) : Option (((Nat × Int32 × pm_H) ⊕ (Nat × Int32 × pm_H) ⊕ (Nat × Int32 × Int32 × Int32 × Nat × pm_H) ⊕ (Nat × Int32 × Int32 × Int32 × Int32 × Nat × pm_H)) ⊕ pm_H) := if pm_kd h x0 = 16 then (pm_R h x0 10).bind fun v12 => if pm_kd h v12 = 14 then (fX14_at h v12 x2).bind fun v15 => if v15 < 2 then (some (.inl (.inr (.inr (.inl ((x0, x2, v15, pm_I h x0 21, x0, h))))))) else (if 4 < v15 then (some (.inl (.inr (.inr (.inl ((x0, x2, v15, pm_I h x0 21, x0, h))))))) else (some (.inl (.inr (.inr (.inr ((x0, x2, v15, 1, pm_I h x0 21, x0, h)))))))) else none else none
noncomputable def tX16_declaresIn_50 (x0 : Nat) (x2 : Int32) (x3 : Int32) (s0 : Int32) (s1 : Nat) (h : pm_H) : Option (((Nat × Int32 × pm_H) ⊕ (Nat × Int32 × pm_H) ⊕ (Nat × Int32 × Int32 × Int32 × Nat × pm_H) ⊕ (Nat × Int32 × Int32 × Int32 × Int32 × Nat × pm_H)) ⊕ pm_H) := if x3 = 11 then (some (.inl (.inr (.inr (.inr ((x0, x2, x3, (-1), s0, s1, h))))))) else (some (.inl (.inr (.inr (.inr ((x0, x2, x3, 0, s0, s1, h)))))))
noncomputable def tX16_declaresIn_61 (x0 : Nat) (x2 : Int32) (x3 : Int32) (s0 : Int32) (s1 : Int32) (s2 : Nat) (h : pm_H) : Option (((Nat × Int32 × pm_H) ⊕ (Nat × Int32 × pm_H) ⊕ (Nat × Int32 × Int32 × Int32 × Nat × pm_H) ⊕ (Nat × Int32 × Int32 × Int32 × Int32 × Nat × pm_H)) ⊕ pm_H) := pm_let (s1 + s0) fun y20 => if pm_kd h s2 = 16 then pm_let (x2 + 1) fun y23 => if pm_kd (pm_setI h s2 21 y20) x0 = 16 then if x3 = 210 then ((fX16_word (pm_setI (pm_setI h s2 21 y20) x0 19 y23) x0).bind fun v29 => if pm_kd v29.2 x0 = 16 then (fX16_declare v29.2 x0 v29.1).bind fun v32 => if pm_kd v32 x0 = 16 then (fX16_behind v32 x0 x2).bind fun v35 => some (.inl (.inl ((x0, v35.1, v35.2)))) else none else none) else ((fX16_behind (pm_setI (pm_setI h s2 21 y20) x0 19 y23) x0 x2).bind fun v27 => some (.inl (.inl ((x0, v27.1, v27.2))))) else none else none
noncomputable def sX16_declaresIn : ((Nat × Int32 × pm_H) ⊕ (Nat × Int32 × pm_H) ⊕ (Nat × Int32 × Int32 × Int32 × Nat × pm_H) ⊕ (Nat × Int32 × Int32 × Int32 × Int32 × Nat × pm_H)) → Option (((Nat × Int32 × pm_H) ⊕ (Nat × Int32 × pm_H) ⊕ (Nat × Int32 × Int32 × Int32 × Nat × pm_H) ⊕ (Nat × Int32 × Int32 × Int32 × Int32 × Nat × pm_H)) ⊕ pm_H) := fun z => match z with
  | .inl (x0, x2, h) => tX16_declaresIn_2 x0 x2 h
  | .inr (.inl (x0, x2, h)) => tX16_declaresIn_22 x0 x2 h
  | .inr (.inr (.inl (x0, x2, x3, s0, s1, h))) => tX16_declaresIn_50 x0 x2 x3 s0 s1 h
  | .inr (.inr (.inr (x0, x2, x3, s0, s1, s2, h))) => tX16_declaresIn_61 x0 x2 x3 s0 s1 s2 h
noncomputable def fX16_declaresIn (h : pm_H) (a0 : Nat) (p1 : Int32) : Option pm_H := pm_lim sX16_declaresIn (.inl ((a0, p1, h)))
set_option maxHeartbeats 4000000 in
set_option maxRecDepth 100000 in
theorem lpX16_declaresIn {g : pm_Gm} {l : Launch} {G : pm_Gl} {Qr : Option Value → pm_H → Prop} (C : pm_C g cX16_declaresIn RX16) (X : pm_X g l G mX16_declaresIn 0 0 Qr) {r : pm_H} (q : Qr none r) : ∀ n : Nat, (∀ (x0 : Nat) (x2 : Int32) (h : pm_H), pm_iter sX16_declaresIn n (.inl (x0, x2, h)) = some r → pm_G g 2 [(0, .ref x0), (2, .int x2)] [] h 0 0) ∧ (∀ (x0 : Nat) (x2 : Int32) (h : pm_H), pm_iter sX16_declaresIn n (.inr (.inl (x0, x2, h))) = some r → pm_G g 22 [(0, .ref x0), (2, .int x2)] [] h 0 0) ∧ (∀ (x0 : Nat) (x2 : Int32) (x3 : Int32) (s0 : Int32) (s1 : Nat) (h : pm_H), pm_iter sX16_declaresIn n (.inr (.inr (.inl (x0, x2, x3, s0, s1, h)))) = some r → pm_G g 50 [(0, .ref x0), (2, .int x2), (3, .int x3)] [.int s0, .ref s1] h 0 0) ∧ (∀ (x0 : Nat) (x2 : Int32) (x3 : Int32) (s0 : Int32) (s1 : Int32) (s2 : Nat) (h : pm_H), pm_iter sX16_declaresIn n (.inr (.inr (.inr (x0, x2, x3, s0, s1, s2, h)))) = some r → pm_G g 61 [(0, .ref x0), (2, .int x2), (3, .int x3)] [.int s0, .int s1, .ref s2] h 0 0) := by
  intro n
  induction n with
  | zero => exact ⟨fun _ _ _ hf => (by cases hf), fun _ _ _ hf => (by cases hf), fun _ _ _ _ _ _ hf => (by cases hf), fun _ _ _ _ _ _ _ hf => (by cases hf)⟩
  | succ n ih =>
    refine ⟨fun x0 x2 h hf => ?_, ?_⟩
    · obtain ⟨y, hf, hi⟩ := pm_iter_s hf
      have hf : tX16_declaresIn_2 x0 x2 h = some y := hf
      unfold tX16_declaresIn_2 at hf
      refine pm_aload_n C dX16_declaresIn_2 rfl rfl ?_
      obtain ⟨k1, hf⟩ := pm_if hf
      obtain ⟨v2, e3, hf⟩ := pm_bd hf
      refine pm_getR C dX16_declaresIn_3 flX16_221 rfl k1 e3 ?_
      refine pm_iload_n C dX16_declaresIn_6 rfl rfl ?_
      obtain ⟨k4, hf⟩ := pm_if hf
      obtain ⟨v5, e6, hf⟩ := pm_bd hf
      refine pm_callV (as := [.int x2]) (st := []) C X dX16_declaresIn_7 lnX16_261 myX14_at viX14_at ⟨by decide, by decide⟩ rfl rfl k4 (Nat.le_of_ble_eq_true rfl) (Nat.le_refl _) (Nat.le_refl _) (ctX14_at e6 ?_)
      show pm_G g 10 [(0, .ref x0), (2, .int x2)] [.int v5] h 0 0
      refine pm_bipush (v := 11) C dX16_declaresIn_10 (by decide) ?_
      refine pm_icmp_ne (tgt := 22) C dX16_declaresIn_12 (by decide) (fun c7 => ?_) (fun c7 => ?_)
      · have hf := pm_ie hf c7
        cases hf
        exact pm_sub [0, 1] rfl (ih.2.1 x0 x2 h hi)
      · have hf := pm_it hf c7
        refine pm_aload_n C dX16_declaresIn_15 rfl rfl ?_
        refine pm_getI C dX16_declaresIn_16 flX16_648 rfl k1 rfl ?_
        refine pm_if_le (tgt := 96) C dX16_declaresIn_19 (by decide) (fun c8 => ?_) (fun c8 => ?_)
        · have hf := pm_it hf c8
          refine pm_aload_n C dX16_declaresIn_96 rfl rfl ?_
          refine pm_iload_n C dX16_declaresIn_97 rfl rfl ?_
          refine pm_iconst (v := 1) C dX16_declaresIn_98 (by decide) ?_
          refine pm_iadd C dX16_declaresIn_99 ?_
          obtain ⟨y9, e10, hf⟩ := pm_lt hf
          refine pm_topI e10 ?_
          refine pm_putI C dX16_declaresIn_100 flX16_594 rfl rfl k1 rfl rfl ?_
          cases hf
          cases hi
          exact pm_vret C X dX16_declaresIn_103 rfl (Nat.le_refl _) (Nat.le_refl _) q
        · have hf := pm_ie hf c8
          cases hf
          exact pm_sub [0, 1] rfl (ih.2.1 x0 x2 h hi)
    refine ⟨fun x0 x2 h hf => ?_, ?_⟩
    · obtain ⟨y, hf, hi⟩ := pm_iter_s hf
      have hf : tX16_declaresIn_22 x0 x2 h = some y := hf
      unfold tX16_declaresIn_22 at hf
      refine pm_aload_n C dX16_declaresIn_22 rfl rfl ?_
      obtain ⟨k11, hf⟩ := pm_if hf
      obtain ⟨v12, e13, hf⟩ := pm_bd hf
      refine pm_getR C dX16_declaresIn_23 flX16_221 rfl k11 e13 ?_
      refine pm_iload_n C dX16_declaresIn_26 rfl rfl ?_
      obtain ⟨k14, hf⟩ := pm_if hf
      obtain ⟨v15, e16, hf⟩ := pm_bd hf
      refine pm_callV (as := [.int x2]) (st := []) C X dX16_declaresIn_27 lnX16_261 myX14_at viX14_at ⟨by decide, by decide⟩ rfl rfl k14 (Nat.le_of_ble_eq_true rfl) (Nat.le_refl _) (Nat.le_refl _) (ctX14_at e16 ?_)
      show pm_G g 30 [(0, .ref x0), (2, .int x2)] [.int v15] h 0 0
      refine pm_istore_n (lv' := [(3, .int v15), (0, .ref x0), (2, .int x2)]) C dX16_declaresIn_30 rfl (pm_nl X (by decide)) rfl ?_
      refine pm_aload_n C dX16_declaresIn_31 rfl rfl ?_
      refine pm_dup C dX16_declaresIn_32 rfl ?_
      refine pm_getI C dX16_declaresIn_33 flX16_648 rfl k11 rfl ?_
      refine pm_iload_n C dX16_declaresIn_36 rfl rfl ?_
      refine pm_iconst (v := 2) C dX16_declaresIn_37 (by decide) ?_
      refine pm_icmp_lt (tgt := 50) C dX16_declaresIn_38 (by decide) (fun c17 => ?_) (fun c17 => ?_)
      · have hf := pm_it hf c17
        cases hf
        exact pm_sub [1, 2, 0] rfl (ih.2.2.1 x0 x2 v15 (pm_I h x0 21) x0 h hi)
      · have hf := pm_ie hf c17
        refine pm_iload_n C dX16_declaresIn_41 rfl rfl ?_
        refine pm_iconst (v := 4) C dX16_declaresIn_42 (by decide) ?_
        refine pm_icmp_gt (tgt := 50) C dX16_declaresIn_43 (by decide) (fun c18 => ?_) (fun c18 => ?_)
        · have hf := pm_it hf c18
          cases hf
          exact pm_sub [1, 2, 0] rfl (ih.2.2.1 x0 x2 v15 (pm_I h x0 21) x0 h hi)
        · have hf := pm_ie hf c18
          refine pm_iconst (v := 1) C dX16_declaresIn_46 (by decide) ?_
          refine pm_goto (tgt := 61) C dX16_declaresIn_47 (by decide) ?_
          cases hf
          exact pm_sub [1, 2, 0] rfl (ih.2.2.2 x0 x2 v15 1 (pm_I h x0 21) x0 h hi)
    refine ⟨fun x0 x2 x3 s0 s1 h hf => ?_, ?_⟩
    · obtain ⟨y, hf, hi⟩ := pm_iter_s hf
      have hf : tX16_declaresIn_50 x0 x2 x3 s0 s1 h = some y := hf
      unfold tX16_declaresIn_50 at hf
      refine pm_iload_n C dX16_declaresIn_50 rfl rfl ?_
      refine pm_bipush (v := 11) C dX16_declaresIn_51 (by decide) ?_
      refine pm_icmp_ne (tgt := 60) C dX16_declaresIn_53 (by decide) (fun c19 => ?_) (fun c19 => ?_)
      · have hf := pm_ie hf c19
        refine pm_iconst (v := 0) C dX16_declaresIn_60 (by decide) ?_
        cases hf
        exact pm_sub [0, 1, 2] rfl (ih.2.2.2 x0 x2 x3 0 s0 s1 h hi)
      · have hf := pm_it hf c19
        refine pm_iconst (v := (-1)) C dX16_declaresIn_56 (by decide) ?_
        refine pm_goto (tgt := 61) C dX16_declaresIn_57 (by decide) ?_
        cases hf
        exact pm_sub [0, 1, 2] rfl (ih.2.2.2 x0 x2 x3 (-1) s0 s1 h hi)
    refine fun x0 x2 x3 s0 s1 s2 h hf => ?_
    obtain ⟨y, hf, hi⟩ := pm_iter_s hf
    have hf : tX16_declaresIn_61 x0 x2 x3 s0 s1 s2 h = some y := hf
    unfold tX16_declaresIn_61 at hf
    refine pm_iadd C dX16_declaresIn_61 ?_
    obtain ⟨y20, e21, hf⟩ := pm_lt hf
    refine pm_topI e21 ?_
    obtain ⟨k22, hf⟩ := pm_if hf
    refine pm_putI C dX16_declaresIn_62 flX16_648 rfl rfl k22 rfl rfl ?_
    refine pm_aload_n C dX16_declaresIn_65 rfl rfl ?_
    refine pm_iload_n C dX16_declaresIn_66 rfl rfl ?_
    refine pm_iconst (v := 1) C dX16_declaresIn_67 (by decide) ?_
    refine pm_iadd C dX16_declaresIn_68 ?_
    obtain ⟨y23, e24, hf⟩ := pm_lt hf
    refine pm_topI e24 ?_
    obtain ⟨k25, hf⟩ := pm_if hf
    refine pm_putI C dX16_declaresIn_69 flX16_594 rfl rfl k25 rfl rfl ?_
    refine pm_iload_n C dX16_declaresIn_72 rfl rfl ?_
    refine pm_sipush (v := 210) C dX16_declaresIn_73 (by decide) ?_
    refine pm_icmp_ne (tgt := 87) C dX16_declaresIn_76 (by decide) (fun c26 => ?_) (fun c26 => ?_)
    · have hf := pm_ie hf c26
      refine pm_aload_n C dX16_declaresIn_87 rfl rfl ?_
      refine pm_iload_n C dX16_declaresIn_88 rfl rfl ?_
      obtain ⟨v27, e28, hf⟩ := pm_bd hf
      refine pm_callV (as := [.int x2]) (st := []) C X dX16_declaresIn_89 lnX16_655 myX16_behind viX16_behind ⟨by decide, by decide⟩ rfl rfl k25 (Nat.le_of_ble_eq_true rfl) (Nat.le_refl _) (Nat.le_refl _) (ctX16_behind e28 ?_)
      show pm_G g 92 [(0, .ref x0), (2, .int x2), (3, .int x3)] [.int v27.1] v27.2 0 0
      refine pm_istore_n (lv' := [(2, .int v27.1), (0, .ref x0), (3, .int x3)]) C dX16_declaresIn_92 rfl (pm_nl X (by decide)) rfl ?_
      refine pm_goto (tgt := 2) C dX16_declaresIn_93 (by decide) ?_
      cases hf
      exact pm_sub [1, 0] rfl (ih.1 x0 v27.1 v27.2 hi)
    · have hf := pm_it hf c26
      refine pm_aload_n C dX16_declaresIn_79 rfl rfl ?_
      refine pm_aload_n C dX16_declaresIn_80 rfl rfl ?_
      obtain ⟨v29, e30, hf⟩ := pm_bd hf
      refine pm_callV (as := []) (st := [.ref x0]) C X dX16_declaresIn_81 lnX16_603 myX16_word viX16_word ⟨by decide, by decide⟩ rfl rfl k25 (Nat.le_of_ble_eq_true rfl) (Nat.le_refl _) (Nat.le_refl _) (ctX16_word e30 ?_)
      show pm_G g 84 [(0, .ref x0), (2, .int x2), (3, .int x3)] [.long v29.1, .ref x0] v29.2 0 0
      obtain ⟨k31, hf⟩ := pm_if hf
      obtain ⟨v32, e33, hf⟩ := pm_bd hf
      refine pm_callV (as := [.long v29.1]) (st := []) C X dX16_declaresIn_84 lnX16_651 myX16_declare viX16_declare ⟨by decide, by decide⟩ rfl rfl k31 (Nat.le_of_ble_eq_true rfl) (Nat.le_refl _) (Nat.le_refl _) (ctX16_declare e33 ?_)
      show pm_G g 87 [(0, .ref x0), (2, .int x2), (3, .int x3)] [] v32 0 0
      refine pm_aload_n C dX16_declaresIn_87 rfl rfl ?_
      refine pm_iload_n C dX16_declaresIn_88 rfl rfl ?_
      obtain ⟨k34, hf⟩ := pm_if hf
      obtain ⟨v35, e36, hf⟩ := pm_bd hf
      refine pm_callV (as := [.int x2]) (st := []) C X dX16_declaresIn_89 lnX16_655 myX16_behind viX16_behind ⟨by decide, by decide⟩ rfl rfl k34 (Nat.le_of_ble_eq_true rfl) (Nat.le_refl _) (Nat.le_refl _) (ctX16_behind e36 ?_)
      show pm_G g 92 [(0, .ref x0), (2, .int x2), (3, .int x3)] [.int v35.1] v35.2 0 0
      refine pm_istore_n (lv' := [(2, .int v35.1), (0, .ref x0), (3, .int x3)]) C dX16_declaresIn_92 rfl (pm_nl X (by decide)) rfl ?_
      refine pm_goto (tgt := 2) C dX16_declaresIn_93 (by decide) ?_
      cases hf
      exact pm_sub [1, 0] rfl (ih.1 x0 v35.1 v35.2 hi)
set_option maxHeartbeats 4000000 in
set_option maxRecDepth 100000 in
theorem ctX16_declaresIn {l : Launch} {G : pm_Gl} {h : pm_H} {a0 : Nat} {p1 : Int32} {r : pm_H} {Qr : Option Value → pm_H → Prop} (hf : fX16_declaresIn h a0 p1 = some r) (q : Qr none r) : pm_Ct l G mX16_declaresIn [.ref a0, .int p1] h 0 0 Qr := by
  refine pm_body pnX16 (Nat.le_of_ble_eq_true rfl) (fun g C X => ?_)
  have C : pm_C g cX16_declaresIn RX16 := C
  show pm_G g 0 [(0, .ref a0), (1, .int p1)] [] h 0 0
  unfold fX16_declaresIn at hf
  refine pm_iload_n C dX16_declaresIn_0 rfl rfl ?_
  refine pm_istore_n (lv' := [(2, .int p1), (0, .ref a0), (1, .int p1)]) C dX16_declaresIn_1 rfl (pm_nl X (by decide)) rfl ?_
  obtain ⟨n, hn⟩ := pm_lim_iter hf
  exact pm_sub [1, 0] rfl ((lpX16_declaresIn C X q n).1 a0 p1 h hn)
