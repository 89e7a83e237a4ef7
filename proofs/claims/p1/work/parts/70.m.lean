theorem dX9_longInstruction_0 : decode cX9_longInstruction 0 = .ok (.aload_n 0, 1) := by decide +kernel
theorem dX9_longInstruction_1 : decode cX9_longInstruction 1 = .ok (.bipush 32, 2) := by decide +kernel
theorem dX9_longInstruction_3 : decode cX9_longInstruction 3 = .ok (.invokevirtual 145, 3) := by decide +kernel
theorem dX9_longInstruction_6 : decode cX9_longInstruction 6 = .ok (.lstore_n 1, 1) := by decide +kernel
theorem dX9_longInstruction_7 : decode cX9_longInstruction 7 = .ok (.lload_n 1, 1) := by decide +kernel
theorem dX9_longInstruction_8 : decode cX9_longInstruction 8 = .ok (.ldc2_w 305, 3) := by decide +kernel
theorem dX9_longInstruction_11 : decode cX9_longInstruction 11 = .ok (.lcmp, 1) := by decide +kernel
theorem dX9_longInstruction_12 : decode cX9_longInstruction 12 = .ok (.ifCond .le 13, 3) := by decide +kernel
theorem dX9_longInstruction_15 : decode cX9_longInstruction 15 = .ok (.aload_n 0, 1) := by decide +kernel
theorem dX9_longInstruction_16 : decode cX9_longInstruction 16 = .ok (.bipush 10, 2) := by decide +kernel
theorem dX9_longInstruction_18 : decode cX9_longInstruction 18 = .ok (.aload_n 0, 1) := by decide +kernel
theorem dX9_longInstruction_19 : decode cX9_longInstruction 19 = .ok (.getfield 276, 3) := by decide +kernel
theorem dX9_longInstruction_22 : decode cX9_longInstruction 22 = .ok (.invokevirtual 47, 3) := by decide +kernel
theorem dX9_longInstruction_25 : decode cX9_longInstruction 25 = .ok (.lload_n 1, 1) := by decide +kernel
theorem dX9_longInstruction_26 : decode cX9_longInstruction 26 = .ok (.ldc2_w 307, 3) := by decide +kernel
theorem dX9_longInstruction_29 : decode cX9_longInstruction 29 = .ok (.lcmp, 1) := by decide +kernel
theorem dX9_longInstruction_30 : decode cX9_longInstruction 30 = .ok (.ifCond .eq 11, 3) := by decide +kernel
theorem dX9_longInstruction_33 : decode cX9_longInstruction 33 = .ok (.lload_n 1, 1) := by decide +kernel
theorem dX9_longInstruction_34 : decode cX9_longInstruction 34 = .ok (.ldc2_w 309, 3) := by decide +kernel
theorem dX9_longInstruction_37 : decode cX9_longInstruction 37 = .ok (.lcmp, 1) := by decide +kernel
theorem dX9_longInstruction_38 : decode cX9_longInstruction 38 = .ok (.ifCond .ne 25, 3) := by decide +kernel
theorem dX9_longInstruction_41 : decode cX9_longInstruction 41 = .ok (.aload_n 0, 1) := by decide +kernel
theorem dX9_longInstruction_42 : decode cX9_longInstruction 42 = .ok (.getfield 19, 3) := by decide +kernel
theorem dX9_longInstruction_45 : decode cX9_longInstruction 45 = .ok (.getfield 80, 3) := by decide +kernel
theorem dX9_longInstruction_48 : decode cX9_longInstruction 48 = .ok (.lconst 0, 1) := by decide +kernel
theorem dX9_longInstruction_49 : decode cX9_longInstruction 49 = .ok (.lcmp, 1) := by decide +kernel
theorem dX9_longInstruction_50 : decode cX9_longInstruction 50 = .ok (.ifCond .ge 13, 3) := by decide +kernel
theorem dX9_longInstruction_53 : decode cX9_longInstruction 53 = .ok (.aload_n 0, 1) := by decide +kernel
theorem dX9_longInstruction_54 : decode cX9_longInstruction 54 = .ok (.bipush 11, 2) := by decide +kernel
theorem dX9_longInstruction_56 : decode cX9_longInstruction 56 = .ok (.aload_n 0, 1) := by decide +kernel
theorem dX9_longInstruction_57 : decode cX9_longInstruction 57 = .ok (.getfield 276, 3) := by decide +kernel
theorem dX9_longInstruction_60 : decode cX9_longInstruction 60 = .ok (.invokevirtual 47, 3) := by decide +kernel
theorem dX9_longInstruction_63 : decode cX9_longInstruction 63 = .ok (.aload_n 0, 1) := by decide +kernel
theorem dX9_longInstruction_64 : decode cX9_longInstruction 64 = .ok (.getfield 40, 3) := by decide +kernel
theorem dX9_longInstruction_67 : decode cX9_longInstruction 67 = .ok (.ifCond .eq 4, 3) := by decide +kernel
theorem dX9_longInstruction_70 : decode cX9_longInstruction 70 = .ok (.return_, 1) := by decide +kernel
theorem dX9_longInstruction_71 : decode cX9_longInstruction 71 = .ok (.aload_n 0, 1) := by decide +kernel
theorem dX9_longInstruction_72 : decode cX9_longInstruction 72 = .ok (.lload_n 1, 1) := by decide +kernel
theorem dX9_longInstruction_73 : decode cX9_longInstruction 73 = .ok (.l2i, 1) := by decide +kernel
theorem dX9_longInstruction_74 : decode cX9_longInstruction 74 = .ok (.lload_n 1, 1) := by decide +kernel
theorem dX9_longInstruction_75 : decode cX9_longInstruction 75 = .ok (.ldc2_w 307, 3) := by decide +kernel
theorem dX9_longInstruction_78 : decode cX9_longInstruction 78 = .ok (.lcmp, 1) := by decide +kernel
theorem dX9_longInstruction_79 : decode cX9_longInstruction 79 = .ok (.ifCond .ge 9, 3) := by decide +kernel
theorem dX9_longInstruction_82 : decode cX9_longInstruction 82 = .ok (.sipush 200, 3) := by decide +kernel
theorem dX9_longInstruction_85 : decode cX9_longInstruction 85 = .ok (.goto 6, 3) := by decide +kernel
theorem dX9_longInstruction_88 : decode cX9_longInstruction 88 = .ok (.sipush 300, 3) := by decide +kernel
theorem dX9_longInstruction_91 : decode cX9_longInstruction 91 = .ok (.iadd, 1) := by decide +kernel
theorem dX9_longInstruction_92 : decode cX9_longInstruction 92 = .ok (.putfield 273, 3) := by decide +kernel
theorem dX9_longInstruction_95 : decode cX9_longInstruction 95 = .ok (.lload_n 1, 1) := by decide +kernel
theorem dX9_longInstruction_96 : decode cX9_longInstruction 96 = .ok (.ldc2_w 307, 3) := by decide +kernel
theorem dX9_longInstruction_99 : decode cX9_longInstruction 99 = .ok (.lcmp, 1) := by decide +kernel
theorem dX9_longInstruction_100 : decode cX9_longInstruction 100 = .ok (.ifCond .lt 29, 3) := by decide +kernel
theorem dX9_longInstruction_103 : decode cX9_longInstruction 103 = .ok (.lload_n 1, 1) := by decide +kernel
theorem dX9_longInstruction_104 : decode cX9_longInstruction 104 = .ok (.ldc2_w 311, 3) := by decide +kernel
theorem dX9_longInstruction_107 : decode cX9_longInstruction 107 = .ok (.lcmp, 1) := by decide +kernel
theorem dX9_longInstruction_108 : decode cX9_longInstruction 108 = .ok (.ifCond .eq 21, 3) := by decide +kernel
theorem dX9_longInstruction_111 : decode cX9_longInstruction 111 = .ok (.lload_n 1, 1) := by decide +kernel
theorem dX9_longInstruction_112 : decode cX9_longInstruction 112 = .ok (.ldc2_w 313, 3) := by decide +kernel
theorem dX9_longInstruction_115 : decode cX9_longInstruction 115 = .ok (.lcmp, 1) := by decide +kernel
theorem dX9_longInstruction_116 : decode cX9_longInstruction 116 = .ok (.ifCond .eq 13, 3) := by decide +kernel
theorem dX9_longInstruction_119 : decode cX9_longInstruction 119 = .ok (.aload_n 0, 1) := by decide +kernel
theorem dX9_longInstruction_120 : decode cX9_longInstruction 120 = .ok (.aload_n 0, 1) := by decide +kernel
theorem dX9_longInstruction_121 : decode cX9_longInstruction 121 = .ok (.bipush 32, 2) := by decide +kernel
theorem dX9_longInstruction_123 : decode cX9_longInstruction 123 = .ok (.invokevirtual 145, 3) := by decide +kernel
theorem dX9_longInstruction_126 : decode cX9_longInstruction 126 = .ok (.putfield 279, 3) := by decide +kernel
theorem dX9_longInstruction_129 : decode cX9_longInstruction 129 = .ok (.lload_n 1, 1) := by decide +kernel
theorem dX9_longInstruction_130 : decode cX9_longInstruction 130 = .ok (.ldc2_w 315, 3) := by decide +kernel
theorem dX9_longInstruction_133 : decode cX9_longInstruction 133 = .ok (.lcmp, 1) := by decide +kernel
theorem dX9_longInstruction_134 : decode cX9_longInstruction 134 = .ok (.ifCond .eq 11, 3) := by decide +kernel
theorem dX9_longInstruction_137 : decode cX9_longInstruction 137 = .ok (.lload_n 1, 1) := by decide +kernel
theorem dX9_longInstruction_138 : decode cX9_longInstruction 138 = .ok (.ldc2_w 317, 3) := by decide +kernel
theorem dX9_longInstruction_141 : decode cX9_longInstruction 141 = .ok (.lcmp, 1) := by decide +kernel
theorem dX9_longInstruction_142 : decode cX9_longInstruction 142 = .ok (.ifCond .ne 13, 3) := by decide +kernel
theorem dX9_longInstruction_145 : decode cX9_longInstruction 145 = .ok (.aload_n 0, 1) := by decide +kernel
theorem dX9_longInstruction_146 : decode cX9_longInstruction 146 = .ok (.aload_n 0, 1) := by decide +kernel
theorem dX9_longInstruction_147 : decode cX9_longInstruction 147 = .ok (.bipush 32, 2) := by decide +kernel
theorem dX9_longInstruction_149 : decode cX9_longInstruction 149 = .ok (.invokevirtual 145, 3) := by decide +kernel
theorem dX9_longInstruction_152 : decode cX9_longInstruction 152 = .ok (.putfield 282, 3) := by decide +kernel
theorem dX9_longInstruction_155 : decode cX9_longInstruction 155 = .ok (.lload_n 1, 1) := by decide +kernel
theorem dX9_longInstruction_156 : decode cX9_longInstruction 156 = .ok (.ldc2_w 307, 3) := by decide +kernel
theorem dX9_longInstruction_159 : decode cX9_longInstruction 159 = .ok (.lcmp, 1) := by decide +kernel
theorem dX9_longInstruction_160 : decode cX9_longInstruction 160 = .ok (.ifCond .eq 19, 3) := by decide +kernel
theorem dX9_longInstruction_163 : decode cX9_longInstruction 163 = .ok (.lload_n 1, 1) := by decide +kernel
theorem dX9_longInstruction_164 : decode cX9_longInstruction 164 = .ok (.ldc2_w 311, 3) := by decide +kernel
theorem dX9_longInstruction_167 : decode cX9_longInstruction 167 = .ok (.lcmp, 1) := by decide +kernel
theorem dX9_longInstruction_168 : decode cX9_longInstruction 168 = .ok (.ifCond .eq 11, 3) := by decide +kernel
theorem dX9_longInstruction_171 : decode cX9_longInstruction 171 = .ok (.lload_n 1, 1) := by decide +kernel
theorem dX9_longInstruction_172 : decode cX9_longInstruction 172 = .ok (.ldc2_w 313, 3) := by decide +kernel
theorem dX9_longInstruction_175 : decode cX9_longInstruction 175 = .ok (.lcmp, 1) := by decide +kernel
theorem dX9_longInstruction_176 : decode cX9_longInstruction 176 = .ok (.ifCond .ne 9, 3) := by decide +kernel
theorem dX9_longInstruction_179 : decode cX9_longInstruction 179 = .ok (.aload_n 0, 1) := by decide +kernel
theorem dX9_longInstruction_180 : decode cX9_longInstruction 180 = .ok (.iconst 0, 1) := by decide +kernel
theorem dX9_longInstruction_181 : decode cX9_longInstruction 181 = .ok (.invokevirtual 228, 3) := by decide +kernel
theorem dX9_longInstruction_184 : decode cX9_longInstruction 184 = .ok (.pop, 1) := by decide +kernel
theorem dX9_longInstruction_185 : decode cX9_longInstruction 185 = .ok (.lload_n 1, 1) := by decide +kernel
theorem dX9_longInstruction_186 : decode cX9_longInstruction 186 = .ok (.ldc2_w 311, 3) := by decide +kernel
theorem dX9_longInstruction_189 : decode cX9_longInstruction 189 = .ok (.lcmp, 1) := by decide +kernel
theorem dX9_longInstruction_190 : decode cX9_longInstruction 190 = .ok (.ifCond .ne 9, 3) := by decide +kernel
theorem dX9_longInstruction_193 : decode cX9_longInstruction 193 = .ok (.aload_n 0, 1) := by decide +kernel
theorem dX9_longInstruction_194 : decode cX9_longInstruction 194 = .ok (.iconst 0, 1) := by decide +kernel
theorem dX9_longInstruction_195 : decode cX9_longInstruction 195 = .ok (.invokevirtual 228, 3) := by decide +kernel
theorem dX9_longInstruction_198 : decode cX9_longInstruction 198 = .ok (.pop, 1) := by decide +kernel
theorem dX9_longInstruction_199 : decode cX9_longInstruction 199 = .ok (.return_, 1) := by decide +kernel
noncomputable def fX9_longInstruction_b155 (h : pm_H) (x0 : Nat) (x1 : Int64) : Option pm_H := if x1 = 8 then (if pm_kd h x0 = 9 then (fX9_nextUpTo h x0 0).bind fun v38 => if x1 = 10 then (if pm_kd v38.2 x0 = 9 then (fX9_nextUpTo v38.2 x0 0).bind fun v42 => some v42.2 else none) else (some v38.2) else none) else (if x1 = 10 then (if pm_kd h x0 = 9 then (fX9_nextUpTo h x0 0).bind fun v46 => if x1 = 10 then (if pm_kd v46.2 x0 = 9 then (fX9_nextUpTo v46.2 x0 0).bind fun v50 => some v50.2 else none) else (some v46.2) else none) else (if x1 = 11 then (if pm_kd h x0 = 9 then (fX9_nextUpTo h x0 0).bind fun v58 => if x1 = 10 then (if pm_kd v58.2 x0 = 9 then (fX9_nextUpTo v58.2 x0 0).bind fun v62 => some v62.2 else none) else (some v58.2) else none) else (if x1 = 10 then (if pm_kd h x0 = 9 then (fX9_nextUpTo h x0 0).bind fun v55 => some v55.2 else none) else (some h))))
noncomputable def fX9_longInstruction_b145 (h : pm_H) (x0 : Nat) (x1 : Int64) : Option pm_H := if pm_kd h x0 = 9 then (fX9_number h x0 32).bind fun v33 => if pm_kd v33.2 x0 = 9 then fX9_longInstruction_b155 (pm_setL v33.2 x0 9 v33.1) x0 x1 else none else none
noncomputable def fX9_longInstruction_b129 (h : pm_H) (x0 : Nat) (x1 : Int64) : Option pm_H := if x1 = 12 then (fX9_longInstruction_b145 h x0 x1) else (if x1 = 14 then (fX9_longInstruction_b145 h x0 x1) else (fX9_longInstruction_b155 h x0 x1))
noncomputable def fX9_longInstruction_b91 (h : pm_H) (x0 : Nat) (x1 : Int64) (s0 : Int32) (s1 : Int32) (s2 : Nat) : Option pm_H := pm_let (s1 + s0) fun y20 => if pm_kd h s2 = 9 then if x1 < 8 then (fX9_longInstruction_b129 (pm_setI h s2 6 y20) x0 x1) else (if x1 = 10 then (fX9_longInstruction_b129 (pm_setI h s2 6 y20) x0 x1) else (if x1 = 11 then (fX9_longInstruction_b129 (pm_setI h s2 6 y20) x0 x1) else (if pm_kd (pm_setI h s2 6 y20) x0 = 9 then (fX9_number (pm_setI h s2 6 y20) x0 32).bind fun v27 => if pm_kd v27.2 x0 = 9 then fX9_longInstruction_b129 (pm_setL v27.2 x0 8 v27.1) x0 x1 else none else none))) else none
noncomputable def fX9_longInstruction_b63 (h : pm_H) (x0 : Nat) (x1 : Int64) : Option pm_H := if pm_kd h x0 = 9 then if (pm_I h x0 3) = 0 then (if 8 ≤ x1 then (fX9_longInstruction_b91 h x0 x1 300 x1.toInt32 x0) else (fX9_longInstruction_b91 h x0 x1 200 x1.toInt32 x0)) else (some h) else none
noncomputable def fX9_longInstruction_b41 (h : pm_H) (x0 : Nat) (x1 : Int64) : Option pm_H := if pm_kd h x0 = 9 then (pm_R h x0 0).bind fun v11 => if pm_kd h v11 = 7 then if 0 ≤ (pm_L h v11 14) then (fX9_longInstruction_b63 h x0 x1) else ((fX9_fail h x0 11 (pm_I h x0 7)).bind fun v15 => fX9_longInstruction_b63 v15 x0 x1) else none else none
noncomputable def fX9_longInstruction_b25 (h : pm_H) (x0 : Nat) (x1 : Int64) : Option pm_H := if x1 = 8 then (fX9_longInstruction_b41 h x0 x1) else (if x1 = 9 then (fX9_longInstruction_b41 h x0 x1) else (fX9_longInstruction_b63 h x0 x1))
noncomputable def fX9_longInstruction (h : pm_H) (a0 : Nat) : Option pm_H := if pm_kd h a0 = 9 then (fX9_number h a0 32).bind fun v2 => if v2.1 ≤ 17 then (fX9_longInstruction_b25 v2.2 a0 v2.1) else (if pm_kd v2.2 a0 = 9 then (fX9_fail v2.2 a0 10 (pm_I v2.2 a0 7)).bind fun v6 => fX9_longInstruction_b25 v6 a0 v2.1 else none) else none
set_option maxHeartbeats 4000000 in
set_option maxRecDepth 100000 in
theorem bX9_longInstruction_155 {g : pm_Gm} {l : Launch} {G : pm_Gl} {Qr : Option Value → pm_H → Prop} (C : pm_C g cX9_longInstruction RX9) (X : pm_X g l G mX9_longInstruction 0 0 Qr) {h : pm_H} {x0 : Nat} {x1 : Int64} {r : pm_H} (hf : fX9_longInstruction_b155 h x0 x1 = some r) (q : Qr none r) : pm_G g 155 [(0, .ref x0), (1, .long x1)] [] h 0 0 := by
  unfold fX9_longInstruction_b155 at hf
  refine pm_lload_n C dX9_longInstruction_155 rfl rfl ?_
  refine pm_ldc2 C dX9_longInstruction_156 cnX9_307 ?_
  refine pm_lcmp C dX9_longInstruction_159 ?_
  refine pm_if_eq (tgt := 179) C dX9_longInstruction_160 (by decide) (fun c36 => ?_) (fun c36 => ?_)
  · have hf := pm_it hf ((pm_lg_eq _ _).mp c36)
    refine pm_aload_n C dX9_longInstruction_179 rfl rfl ?_
    refine pm_iconst (v := 0) C dX9_longInstruction_180 (by decide) ?_
    obtain ⟨k37, hf⟩ := pm_if hf
    obtain ⟨v38, e39, hf⟩ := pm_bd hf
    refine pm_callV (as := [.int 0]) (st := []) C X dX9_longInstruction_181 lnX9_228 myX9_nextUpTo viX9_nextUpTo ⟨by decide, by decide⟩ rfl rfl k37 (Nat.le_of_ble_eq_true rfl) (Nat.le_refl _) (Nat.le_refl _) (ctX9_nextUpTo e39 ?_)
    show pm_G g 184 [(0, .ref x0), (1, .long x1)] [.int v38.1] v38.2 0 0
    refine pm_pop C dX9_longInstruction_184 rfl ?_
    refine pm_lload_n C dX9_longInstruction_185 rfl rfl ?_
    refine pm_ldc2 C dX9_longInstruction_186 cnX9_311 ?_
    refine pm_lcmp C dX9_longInstruction_189 ?_
    refine pm_if_ne (tgt := 199) C dX9_longInstruction_190 (by decide) (fun c40 => ?_) (fun c40 => ?_)
    · have hf := pm_ie hf ((fun z => c40 ((pm_lg_eq _ _).mpr z)))
      cases hf
      exact pm_vret C X dX9_longInstruction_199 rfl (Nat.le_refl _) (Nat.le_refl _) q
    · have hf := pm_it hf ((pm_lg_eq _ _).mp c40)
      refine pm_aload_n C dX9_longInstruction_193 rfl rfl ?_
      refine pm_iconst (v := 0) C dX9_longInstruction_194 (by decide) ?_
      obtain ⟨k41, hf⟩ := pm_if hf
      obtain ⟨v42, e43, hf⟩ := pm_bd hf
      refine pm_callV (as := [.int 0]) (st := []) C X dX9_longInstruction_195 lnX9_228 myX9_nextUpTo viX9_nextUpTo ⟨by decide, by decide⟩ rfl rfl k41 (Nat.le_of_ble_eq_true rfl) (Nat.le_refl _) (Nat.le_refl _) (ctX9_nextUpTo e43 ?_)
      show pm_G g 198 [(0, .ref x0), (1, .long x1)] [.int v42.1] v42.2 0 0
      refine pm_pop C dX9_longInstruction_198 rfl ?_
      cases hf
      exact pm_vret C X dX9_longInstruction_199 rfl (Nat.le_refl _) (Nat.le_refl _) q
  · have hf := pm_ie hf ((fun z => c36 ((pm_lg_eq _ _).mpr z)))
    refine pm_lload_n C dX9_longInstruction_163 rfl rfl ?_
    refine pm_ldc2 C dX9_longInstruction_164 cnX9_311 ?_
    refine pm_lcmp C dX9_longInstruction_167 ?_
    refine pm_if_eq (tgt := 179) C dX9_longInstruction_168 (by decide) (fun c44 => ?_) (fun c44 => ?_)
    · have hf := pm_it hf ((pm_lg_eq _ _).mp c44)
      refine pm_aload_n C dX9_longInstruction_179 rfl rfl ?_
      refine pm_iconst (v := 0) C dX9_longInstruction_180 (by decide) ?_
      obtain ⟨k45, hf⟩ := pm_if hf
      obtain ⟨v46, e47, hf⟩ := pm_bd hf
      refine pm_callV (as := [.int 0]) (st := []) C X dX9_longInstruction_181 lnX9_228 myX9_nextUpTo viX9_nextUpTo ⟨by decide, by decide⟩ rfl rfl k45 (Nat.le_of_ble_eq_true rfl) (Nat.le_refl _) (Nat.le_refl _) (ctX9_nextUpTo e47 ?_)
      show pm_G g 184 [(0, .ref x0), (1, .long x1)] [.int v46.1] v46.2 0 0
      refine pm_pop C dX9_longInstruction_184 rfl ?_
      refine pm_lload_n C dX9_longInstruction_185 rfl rfl ?_
      refine pm_ldc2 C dX9_longInstruction_186 cnX9_311 ?_
      refine pm_lcmp C dX9_longInstruction_189 ?_
      refine pm_if_ne (tgt := 199) C dX9_longInstruction_190 (by decide) (fun c48 => ?_) (fun c48 => ?_)
      · have hf := pm_ie hf ((fun z => c48 ((pm_lg_eq _ _).mpr z)))
        cases hf
        exact pm_vret C X dX9_longInstruction_199 rfl (Nat.le_refl _) (Nat.le_refl _) q
      · have hf := pm_it hf ((pm_lg_eq _ _).mp c48)
        refine pm_aload_n C dX9_longInstruction_193 rfl rfl ?_
        refine pm_iconst (v := 0) C dX9_longInstruction_194 (by decide) ?_
        obtain ⟨k49, hf⟩ := pm_if hf
        obtain ⟨v50, e51, hf⟩ := pm_bd hf
        refine pm_callV (as := [.int 0]) (st := []) C X dX9_longInstruction_195 lnX9_228 myX9_nextUpTo viX9_nextUpTo ⟨by decide, by decide⟩ rfl rfl k49 (Nat.le_of_ble_eq_true rfl) (Nat.le_refl _) (Nat.le_refl _) (ctX9_nextUpTo e51 ?_)
        show pm_G g 198 [(0, .ref x0), (1, .long x1)] [.int v50.1] v50.2 0 0
        refine pm_pop C dX9_longInstruction_198 rfl ?_
        cases hf
        exact pm_vret C X dX9_longInstruction_199 rfl (Nat.le_refl _) (Nat.le_refl _) q
    · have hf := pm_ie hf ((fun z => c44 ((pm_lg_eq _ _).mpr z)))
      refine pm_lload_n C dX9_longInstruction_171 rfl rfl ?_
      refine pm_ldc2 C dX9_longInstruction_172 cnX9_313 ?_
      refine pm_lcmp C dX9_longInstruction_175 ?_
      refine pm_if_ne (tgt := 185) C dX9_longInstruction_176 (by decide) (fun c52 => ?_) (fun c52 => ?_)
      · have hf := pm_ie hf ((fun z => c52 ((pm_lg_eq _ _).mpr z)))
        refine pm_lload_n C dX9_longInstruction_185 rfl rfl ?_
        refine pm_ldc2 C dX9_longInstruction_186 cnX9_311 ?_
        refine pm_lcmp C dX9_longInstruction_189 ?_
        refine pm_if_ne (tgt := 199) C dX9_longInstruction_190 (by decide) (fun c53 => ?_) (fun c53 => ?_)
        · have hf := pm_ie hf ((fun z => c53 ((pm_lg_eq _ _).mpr z)))
          cases hf
          exact pm_vret C X dX9_longInstruction_199 rfl (Nat.le_refl _) (Nat.le_refl _) q
        · have hf := pm_it hf ((pm_lg_eq _ _).mp c53)
          refine pm_aload_n C dX9_longInstruction_193 rfl rfl ?_
          refine pm_iconst (v := 0) C dX9_longInstruction_194 (by decide) ?_
          obtain ⟨k54, hf⟩ := pm_if hf
          obtain ⟨v55, e56, hf⟩ := pm_bd hf
          refine pm_callV (as := [.int 0]) (st := []) C X dX9_longInstruction_195 lnX9_228 myX9_nextUpTo viX9_nextUpTo ⟨by decide, by decide⟩ rfl rfl k54 (Nat.le_of_ble_eq_true rfl) (Nat.le_refl _) (Nat.le_refl _) (ctX9_nextUpTo e56 ?_)
          show pm_G g 198 [(0, .ref x0), (1, .long x1)] [.int v55.1] v55.2 0 0
          refine pm_pop C dX9_longInstruction_198 rfl ?_
          cases hf
          exact pm_vret C X dX9_longInstruction_199 rfl (Nat.le_refl _) (Nat.le_refl _) q
      · have hf := pm_it hf ((pm_lg_eq _ _).mp c52)
        refine pm_aload_n C dX9_longInstruction_179 rfl rfl ?_
        refine pm_iconst (v := 0) C dX9_longInstruction_180 (by decide) ?_
        obtain ⟨k57, hf⟩ := pm_if hf
        obtain ⟨v58, e59, hf⟩ := pm_bd hf
        refine pm_callV (as := [.int 0]) (st := []) C X dX9_longInstruction_181 lnX9_228 myX9_nextUpTo viX9_nextUpTo ⟨by decide, by decide⟩ rfl rfl k57 (Nat.le_of_ble_eq_true rfl) (Nat.le_refl _) (Nat.le_refl _) (ctX9_nextUpTo e59 ?_)
        show pm_G g 184 [(0, .ref x0), (1, .long x1)] [.int v58.1] v58.2 0 0
        refine pm_pop C dX9_longInstruction_184 rfl ?_
        refine pm_lload_n C dX9_longInstruction_185 rfl rfl ?_
        refine pm_ldc2 C dX9_longInstruction_186 cnX9_311 ?_
        refine pm_lcmp C dX9_longInstruction_189 ?_
        refine pm_if_ne (tgt := 199) C dX9_longInstruction_190 (by decide) (fun c60 => ?_) (fun c60 => ?_)
        · have hf := pm_ie hf ((fun z => c60 ((pm_lg_eq _ _).mpr z)))
          cases hf
          exact pm_vret C X dX9_longInstruction_199 rfl (Nat.le_refl _) (Nat.le_refl _) q
        · have hf := pm_it hf ((pm_lg_eq _ _).mp c60)
          refine pm_aload_n C dX9_longInstruction_193 rfl rfl ?_
          refine pm_iconst (v := 0) C dX9_longInstruction_194 (by decide) ?_
          obtain ⟨k61, hf⟩ := pm_if hf
          obtain ⟨v62, e63, hf⟩ := pm_bd hf
          refine pm_callV (as := [.int 0]) (st := []) C X dX9_longInstruction_195 lnX9_228 myX9_nextUpTo viX9_nextUpTo ⟨by decide, by decide⟩ rfl rfl k61 (Nat.le_of_ble_eq_true rfl) (Nat.le_refl _) (Nat.le_refl _) (ctX9_nextUpTo e63 ?_)
          show pm_G g 198 [(0, .ref x0), (1, .long x1)] [.int v62.1] v62.2 0 0
          refine pm_pop C dX9_longInstruction_198 rfl ?_
          cases hf
          exact pm_vret C X dX9_longInstruction_199 rfl (Nat.le_refl _) (Nat.le_refl _) q
set_option maxHeartbeats 4000000 in
set_option maxRecDepth 100000 in
theorem bX9_longInstruction_145 {g : pm_Gm} {l : Launch} {G : pm_Gl} {Qr : Option Value → pm_H → Prop} (C : pm_C g cX9_longInstruction RX9) (X : pm_X g l G mX9_longInstruction 0 0 Qr) {h : pm_H} {x0 : Nat} {x1 : Int64} {r : pm_H} (hf : fX9_longInstruction_b145 h x0 x1 = some r) (q : Qr none r) : pm_G g 145 [(0, .ref x0), (1, .long x1)] [] h 0 0 := by
  unfold fX9_longInstruction_b145 at hf
  refine pm_aload_n C dX9_longInstruction_145 rfl rfl ?_
  refine pm_aload_n C dX9_longInstruction_146 rfl rfl ?_
  refine pm_bipush (v := 32) C dX9_longInstruction_147 (by decide) ?_
  obtain ⟨k32, hf⟩ := pm_if hf
  obtain ⟨v33, e34, hf⟩ := pm_bd hf
  refine pm_callV (as := [.int 32]) (st := [.ref x0]) C X dX9_longInstruction_149 lnX9_145 myX9_number viX9_number ⟨by decide, by decide⟩ rfl rfl k32 (Nat.le_of_ble_eq_true rfl) (Nat.le_refl _) (Nat.le_refl _) (ctX9_number e34 ?_)
  show pm_G g 152 [(0, .ref x0), (1, .long x1)] [.long v33.1, .ref x0] v33.2 0 0
  obtain ⟨k35, hf⟩ := pm_if hf
  refine pm_putL C dX9_longInstruction_152 flX9_282 rfl rfl k35 ?_
  exact pm_sub [0, 1] rfl (bX9_longInstruction_155 C X hf q)
set_option maxHeartbeats 4000000 in
set_option maxRecDepth 100000 in
theorem bX9_longInstruction_129 {g : pm_Gm} {l : Launch} {G : pm_Gl} {Qr : Option Value → pm_H → Prop} (C : pm_C g cX9_longInstruction RX9) (X : pm_X g l G mX9_longInstruction 0 0 Qr) {h : pm_H} {x0 : Nat} {x1 : Int64} {r : pm_H} (hf : fX9_longInstruction_b129 h x0 x1 = some r) (q : Qr none r) : pm_G g 129 [(0, .ref x0), (1, .long x1)] [] h 0 0 := by
  unfold fX9_longInstruction_b129 at hf
  refine pm_lload_n C dX9_longInstruction_129 rfl rfl ?_
  refine pm_ldc2 C dX9_longInstruction_130 cnX9_315 ?_
  refine pm_lcmp C dX9_longInstruction_133 ?_
  refine pm_if_eq (tgt := 145) C dX9_longInstruction_134 (by decide) (fun c30 => ?_) (fun c30 => ?_)
  · have hf := pm_it hf ((pm_lg_eq _ _).mp c30)
    exact pm_sub [0, 1] rfl (bX9_longInstruction_145 C X hf q)
  · have hf := pm_ie hf ((fun z => c30 ((pm_lg_eq _ _).mpr z)))
    refine pm_lload_n C dX9_longInstruction_137 rfl rfl ?_
    refine pm_ldc2 C dX9_longInstruction_138 cnX9_317 ?_
    refine pm_lcmp C dX9_longInstruction_141 ?_
    refine pm_if_ne (tgt := 155) C dX9_longInstruction_142 (by decide) (fun c31 => ?_) (fun c31 => ?_)
    · have hf := pm_ie hf ((fun z => c31 ((pm_lg_eq _ _).mpr z)))
      exact pm_sub [0, 1] rfl (bX9_longInstruction_155 C X hf q)
    · have hf := pm_it hf ((pm_lg_eq _ _).mp c31)
      exact pm_sub [0, 1] rfl (bX9_longInstruction_145 C X hf q)
set_option maxHeartbeats 4000000 in
set_option maxRecDepth 100000 in
theorem bX9_longInstruction_91 {g : pm_Gm} {l : Launch} {G : pm_Gl} {Qr : Option Value → pm_H → Prop} (C : pm_C g cX9_longInstruction RX9) (X : pm_X g l G mX9_longInstruction 0 0 Qr) {h : pm_H} {x0 : Nat} {x1 : Int64} {s0 : Int32} {s1 : Int32} {s2 : Nat} {r : pm_H} (hf : fX9_longInstruction_b91 h x0 x1 s0 s1 s2 = some r) (q : Qr none r) : pm_G g 91 [(0, .ref x0), (1, .long x1)] [.int s0, .int s1, .ref s2] h 0 0 := by
  unfold fX9_longInstruction_b91 at hf
  refine pm_iadd C dX9_longInstruction_91 ?_
  obtain ⟨y20, e21, hf⟩ := pm_lt hf
  refine pm_topI e21 ?_
  obtain ⟨k22, hf⟩ := pm_if hf
  refine pm_putI C dX9_longInstruction_92 flX9_273 rfl rfl k22 rfl rfl ?_
  refine pm_lload_n C dX9_longInstruction_95 rfl rfl ?_
  refine pm_ldc2 C dX9_longInstruction_96 cnX9_307 ?_
  refine pm_lcmp C dX9_longInstruction_99 ?_
  refine pm_if_lt (tgt := 129) C dX9_longInstruction_100 (by decide) (fun c23 => ?_) (fun c23 => ?_)
  · have hf := pm_it hf ((pm_lg_lt _ _).mp c23)
    exact pm_sub [0, 1] rfl (bX9_longInstruction_129 C X hf q)
  · have hf := pm_ie hf ((fun z => c23 ((pm_lg_lt _ _).mpr z)))
    refine pm_lload_n C dX9_longInstruction_103 rfl rfl ?_
    refine pm_ldc2 C dX9_longInstruction_104 cnX9_311 ?_
    refine pm_lcmp C dX9_longInstruction_107 ?_
    refine pm_if_eq (tgt := 129) C dX9_longInstruction_108 (by decide) (fun c24 => ?_) (fun c24 => ?_)
    · have hf := pm_it hf ((pm_lg_eq _ _).mp c24)
      exact pm_sub [0, 1] rfl (bX9_longInstruction_129 C X hf q)
    · have hf := pm_ie hf ((fun z => c24 ((pm_lg_eq _ _).mpr z)))
      refine pm_lload_n C dX9_longInstruction_111 rfl rfl ?_
      refine pm_ldc2 C dX9_longInstruction_112 cnX9_313 ?_
      refine pm_lcmp C dX9_longInstruction_115 ?_
      refine pm_if_eq (tgt := 129) C dX9_longInstruction_116 (by decide) (fun c25 => ?_) (fun c25 => ?_)
      · have hf := pm_it hf ((pm_lg_eq _ _).mp c25)
        exact pm_sub [0, 1] rfl (bX9_longInstruction_129 C X hf q)
      · have hf := pm_ie hf ((fun z => c25 ((pm_lg_eq _ _).mpr z)))
        refine pm_aload_n C dX9_longInstruction_119 rfl rfl ?_
        refine pm_aload_n C dX9_longInstruction_120 rfl rfl ?_
        refine pm_bipush (v := 32) C dX9_longInstruction_121 (by decide) ?_
        obtain ⟨k26, hf⟩ := pm_if hf
        obtain ⟨v27, e28, hf⟩ := pm_bd hf
        refine pm_callV (as := [.int 32]) (st := [.ref x0]) C X dX9_longInstruction_123 lnX9_145 myX9_number viX9_number ⟨by decide, by decide⟩ rfl rfl k26 (Nat.le_of_ble_eq_true rfl) (Nat.le_refl _) (Nat.le_refl _) (ctX9_number e28 ?_)
        show pm_G g 126 [(0, .ref x0), (1, .long x1)] [.long v27.1, .ref x0] v27.2 0 0
        obtain ⟨k29, hf⟩ := pm_if hf
        refine pm_putL C dX9_longInstruction_126 flX9_279 rfl rfl k29 ?_
        exact pm_sub [0, 1] rfl (bX9_longInstruction_129 C X hf q)
set_option maxHeartbeats 4000000 in
set_option maxRecDepth 100000 in
theorem bX9_longInstruction_63 {g : pm_Gm} {l : Launch} {G : pm_Gl} {Qr : Option Value → pm_H → Prop} (C : pm_C g cX9_longInstruction RX9) (X : pm_X g l G mX9_longInstruction 0 0 Qr) {h : pm_H} {x0 : Nat} {x1 : Int64} {r : pm_H} (hf : fX9_longInstruction_b63 h x0 x1 = some r) (q : Qr none r) : pm_G g 63 [(0, .ref x0), (1, .long x1)] [] h 0 0 := by
  unfold fX9_longInstruction_b63 at hf
  refine pm_aload_n C dX9_longInstruction_63 rfl rfl ?_
  obtain ⟨k17, hf⟩ := pm_if hf
  refine pm_getI C dX9_longInstruction_64 flX9_40 rfl k17 rfl ?_
  refine pm_if_eq (tgt := 71) C dX9_longInstruction_67 (by decide) (fun c18 => ?_) (fun c18 => ?_)
  · have hf := pm_it hf c18
    refine pm_aload_n C dX9_longInstruction_71 rfl rfl ?_
    refine pm_lload_n C dX9_longInstruction_72 rfl rfl ?_
    refine pm_l2i C dX9_longInstruction_73 ?_
    refine pm_lload_n C dX9_longInstruction_74 rfl rfl ?_
    refine pm_ldc2 C dX9_longInstruction_75 cnX9_307 ?_
    refine pm_lcmp C dX9_longInstruction_78 ?_
    refine pm_if_ge (tgt := 88) C dX9_longInstruction_79 (by decide) (fun c19 => ?_) (fun c19 => ?_)
    · have hf := pm_it hf ((pm_lg_ge _ _).mp c19)
      refine pm_sipush (v := 300) C dX9_longInstruction_88 (by decide) ?_
      exact pm_sub [0, 1] rfl (bX9_longInstruction_91 C X hf q)
    · have hf := pm_ie hf ((fun z => c19 ((pm_lg_ge _ _).mpr z)))
      refine pm_sipush (v := 200) C dX9_longInstruction_82 (by decide) ?_
      refine pm_goto (tgt := 91) C dX9_longInstruction_85 (by decide) ?_
      exact pm_sub [0, 1] rfl (bX9_longInstruction_91 C X hf q)
  · have hf := pm_ie hf c18
    cases hf
    exact pm_vret C X dX9_longInstruction_70 rfl (Nat.le_refl _) (Nat.le_refl _) q
set_option maxHeartbeats 4000000 in
set_option maxRecDepth 100000 in
theorem bX9_longInstruction_41 {g : pm_Gm} {l : Launch} {G : pm_Gl} {Qr : Option Value → pm_H → Prop} (C : pm_C g cX9_longInstruction RX9) (X : pm_X g l G mX9_longInstruction 0 0 Qr) {h : pm_H} {x0 : Nat} {x1 : Int64} {r : pm_H} (hf : fX9_longInstruction_b41 h x0 x1 = some r) (q : Qr none r) : pm_G g 41 [(0, .ref x0), (1, .long x1)] [] h 0 0 := by
  unfold fX9_longInstruction_b41 at hf
  refine pm_aload_n C dX9_longInstruction_41 rfl rfl ?_
  obtain ⟨k10, hf⟩ := pm_if hf
  obtain ⟨v11, e12, hf⟩ := pm_bd hf
  refine pm_getR C dX9_longInstruction_42 flX9_19 rfl k10 e12 ?_
  obtain ⟨k13, hf⟩ := pm_if hf
  refine pm_getL C dX9_longInstruction_45 flX9_80 rfl k13 rfl ?_
  refine pm_lconst (v := 0) C dX9_longInstruction_48 (by decide) ?_
  refine pm_lcmp C dX9_longInstruction_49 ?_
  refine pm_if_ge (tgt := 63) C dX9_longInstruction_50 (by decide) (fun c14 => ?_) (fun c14 => ?_)
  · have hf := pm_it hf ((pm_lg_ge _ _).mp c14)
    exact pm_sub [0, 1] rfl (bX9_longInstruction_63 C X hf q)
  · have hf := pm_ie hf ((fun z => c14 ((pm_lg_ge _ _).mpr z)))
    refine pm_aload_n C dX9_longInstruction_53 rfl rfl ?_
    refine pm_bipush (v := 11) C dX9_longInstruction_54 (by decide) ?_
    refine pm_aload_n C dX9_longInstruction_56 rfl rfl ?_
    refine pm_getI C dX9_longInstruction_57 flX9_276 rfl k10 rfl ?_
    obtain ⟨v15, e16, hf⟩ := pm_bd hf
    refine pm_callV (as := [.int 11, .int (pm_I h x0 7)]) (st := []) C X dX9_longInstruction_60 lnX9_47 myX9_fail viX9_fail ⟨by decide, by decide⟩ rfl rfl k10 (Nat.le_of_ble_eq_true rfl) (Nat.le_refl _) (Nat.le_refl _) (ctX9_fail e16 ?_)
    show pm_G g 63 [(0, .ref x0), (1, .long x1)] [] v15 0 0
    exact pm_sub [0, 1] rfl (bX9_longInstruction_63 C X hf q)
set_option maxHeartbeats 4000000 in
set_option maxRecDepth 100000 in
theorem bX9_longInstruction_25 {g : pm_Gm} {l : Launch} {G : pm_Gl} {Qr : Option Value → pm_H → Prop} (C : pm_C g cX9_longInstruction RX9) (X : pm_X g l G mX9_longInstruction 0 0 Qr) {h : pm_H} {x0 : Nat} {x1 : Int64} {r : pm_H} (hf : fX9_longInstruction_b25 h x0 x1 = some r) (q : Qr none r) : pm_G g 25 [(0, .ref x0), (1, .long x1)] [] h 0 0 := by
  unfold fX9_longInstruction_b25 at hf
  refine pm_lload_n C dX9_longInstruction_25 rfl rfl ?_
  refine pm_ldc2 C dX9_longInstruction_26 cnX9_307 ?_
  refine pm_lcmp C dX9_longInstruction_29 ?_
  refine pm_if_eq (tgt := 41) C dX9_longInstruction_30 (by decide) (fun c8 => ?_) (fun c8 => ?_)
  · have hf := pm_it hf ((pm_lg_eq _ _).mp c8)
    exact pm_sub [0, 1] rfl (bX9_longInstruction_41 C X hf q)
  · have hf := pm_ie hf ((fun z => c8 ((pm_lg_eq _ _).mpr z)))
    refine pm_lload_n C dX9_longInstruction_33 rfl rfl ?_
    refine pm_ldc2 C dX9_longInstruction_34 cnX9_309 ?_
    refine pm_lcmp C dX9_longInstruction_37 ?_
    refine pm_if_ne (tgt := 63) C dX9_longInstruction_38 (by decide) (fun c9 => ?_) (fun c9 => ?_)
    · have hf := pm_ie hf ((fun z => c9 ((pm_lg_eq _ _).mpr z)))
      exact pm_sub [0, 1] rfl (bX9_longInstruction_63 C X hf q)
    · have hf := pm_it hf ((pm_lg_eq _ _).mp c9)
      exact pm_sub [0, 1] rfl (bX9_longInstruction_41 C X hf q)
set_option maxHeartbeats 4000000 in
set_option maxRecDepth 100000 in
theorem ctX9_longInstruction {l : Launch} {G : pm_Gl} {h : pm_H} {a0 : Nat} {r : pm_H} {Qr : Option Value → pm_H → Prop} (hf : fX9_longInstruction h a0 = some r) (q : Qr none r) : pm_Ct l G mX9_longInstruction [.ref a0] h 0 0 Qr := by
  refine pm_body pnX9 (Nat.le_of_ble_eq_true rfl) (fun g C X => ?_)
  have C : pm_C g cX9_longInstruction RX9 := C
  show pm_G g 0 [(0, .ref a0)] [] h 0 0
  unfold fX9_longInstruction at hf
  refine pm_aload_n C dX9_longInstruction_0 rfl rfl ?_
  refine pm_bipush (v := 32) C dX9_longInstruction_1 (by decide) ?_
  obtain ⟨k1, hf⟩ := pm_if hf
  obtain ⟨v2, e3, hf⟩ := pm_bd hf
  refine pm_callV (as := [.int 32]) (st := []) C X dX9_longInstruction_3 lnX9_145 myX9_number viX9_number ⟨by decide, by decide⟩ rfl rfl k1 (Nat.le_of_ble_eq_true rfl) (Nat.le_refl _) (Nat.le_refl _) (ctX9_number e3 ?_)
  show pm_G g 6 [(0, .ref a0)] [.long v2.1] v2.2 0 0
  refine pm_lstore_n (lv' := [(1, .long v2.1), (0, .ref a0)]) C dX9_longInstruction_6 rfl (pm_nl X (by decide)) rfl ?_
  refine pm_lload_n C dX9_longInstruction_7 rfl rfl ?_
  refine pm_ldc2 C dX9_longInstruction_8 cnX9_305 ?_
  refine pm_lcmp C dX9_longInstruction_11 ?_
  refine pm_if_le (tgt := 25) C dX9_longInstruction_12 (by decide) (fun c4 => ?_) (fun c4 => ?_)
  · have hf := pm_it hf ((pm_lg_le _ _).mp c4)
    exact pm_sub [1, 0] rfl (bX9_longInstruction_25 C X hf q)
  · have hf := pm_ie hf ((fun z => c4 ((pm_lg_le _ _).mpr z)))
    refine pm_aload_n C dX9_longInstruction_15 rfl rfl ?_
    refine pm_bipush (v := 10) C dX9_longInstruction_16 (by decide) ?_
    refine pm_aload_n C dX9_longInstruction_18 rfl rfl ?_
    obtain ⟨k5, hf⟩ := pm_if hf
    refine pm_getI C dX9_longInstruction_19 flX9_276 rfl k5 rfl ?_
    obtain ⟨v6, e7, hf⟩ := pm_bd hf
    refine pm_callV (as := [.int 10, .int (pm_I v2.2 a0 7)]) (st := []) C X dX9_longInstruction_22 lnX9_47 myX9_fail viX9_fail ⟨by decide, by decide⟩ rfl rfl k5 (Nat.le_of_ble_eq_true rfl) (Nat.le_refl _) (Nat.le_refl _) (ctX9_fail e7 ?_)
    show pm_G g 25 [(1, .long v2.1), (0, .ref a0)] [] v6 0 0
    exact pm_sub [1, 0] rfl (bX9_longInstruction_25 C X hf q)
theorem dX9_name_0 : decode cX9_name 0 = .ok (.aload_n 0, 1) := by decide +kernel
theorem dX9_name_1 : decode cX9_name 1 = .ok (.bipush 32, 2) := by decide +kernel
theorem dX9_name_3 : decode cX9_name 3 = .ok (.invokevirtual 145, 3) := by decide +kernel
theorem dX9_name_6 : decode cX9_name 6 = .ok (.lstore_n 1, 1) := by decide +kernel
theorem dX9_name_7 : decode cX9_name 7 = .ok (.aload_n 0, 1) := by decide +kernel
theorem dX9_name_8 : decode cX9_name 8 = .ok (.getfield 51, 3) := by decide +kernel
theorem dX9_name_11 : decode cX9_name 11 = .ok (.istore_n 3, 1) := by decide +kernel
theorem dX9_name_12 : decode cX9_name 12 = .ok (.aload_n 0, 1) := by decide +kernel
theorem dX9_name_13 : decode cX9_name 13 = .ok (.lload_n 1, 1) := by decide +kernel
theorem dX9_name_14 : decode cX9_name 14 = .ok (.invokevirtual 159, 3) := by decide +kernel
theorem dX9_name_17 : decode cX9_name 17 = .ok (.iload_n 3, 1) := by decide +kernel
theorem dX9_name_18 : decode cX9_name 18 = .ok (.aload_n 0, 1) := by decide +kernel
theorem dX9_name_19 : decode cX9_name 19 = .ok (.getfield 51, 3) := by decide +kernel
theorem dX9_name_22 : decode cX9_name 22 = .ok (.if_icmp .ge 41, 3) := by decide +kernel
theorem dX9_name_25 : decode cX9_name 25 = .ok (.aload_n 0, 1) := by decide +kernel
theorem dX9_name_26 : decode cX9_name 26 = .ok (.getfield 40, 3) := by decide +kernel
theorem dX9_name_29 : decode cX9_name 29 = .ok (.ifCond .ne 34, 3) := by decide +kernel
theorem dX9_name_32 : decode cX9_name 32 = .ok (.aload_n 0, 1) := by decide +kernel
theorem dX9_name_33 : decode cX9_name 33 = .ok (.iload_n 3, 1) := by decide +kernel
theorem dX9_name_34 : decode cX9_name 34 = .ok (.invokevirtual 261, 3) := by decide +kernel
theorem dX9_name_37 : decode cX9_name 37 = .ok (.istore 4, 2) := by decide +kernel
theorem dX9_name_39 : decode cX9_name 39 = .ok (.iload 4, 2) := by decide +kernel
theorem dX9_name_41 : decode cX9_name 41 = .ok (.ifCond .ne 10, 3) := by decide +kernel
theorem dX9_name_44 : decode cX9_name 44 = .ok (.aload_n 0, 1) := by decide +kernel
theorem dX9_name_45 : decode cX9_name 45 = .ok (.bipush 9, 2) := by decide +kernel
theorem dX9_name_47 : decode cX9_name 47 = .ok (.iload_n 3, 1) := by decide +kernel
theorem dX9_name_48 : decode cX9_name 48 = .ok (.invokevirtual 47, 3) := by decide +kernel
theorem dX9_name_51 : decode cX9_name 51 = .ok (.iload_n 3, 1) := by decide +kernel
theorem dX9_name_52 : decode cX9_name 52 = .ok (.iconst 1, 1) := by decide +kernel
theorem dX9_name_53 : decode cX9_name 53 = .ok (.iload 4, 2) := by decide +kernel
theorem dX9_name_55 : decode cX9_name 55 = .ok (.invokestatic 264, 3) := by decide +kernel
theorem dX9_name_58 : decode cX9_name 58 = .ok (.iadd, 1) := by decide +kernel
theorem dX9_name_59 : decode cX9_name 59 = .ok (.istore_n 3, 1) := by decide +kernel
theorem dX9_name_60 : decode cX9_name 60 = .ok (.goto (-43), 3) := by decide +kernel
theorem dX9_name_63 : decode cX9_name 63 = .ok (.aload_n 0, 1) := by decide +kernel
theorem dX9_name_64 : decode cX9_name 64 = .ok (.getfield 40, 3) := by decide +kernel
theorem dX9_name_67 : decode cX9_name 67 = .ok (.ifCond .ne 8, 3) := by decide +kernel
theorem dX9_name_70 : decode cX9_name 70 = .ok (.lload_n 1, 1) := by decide +kernel
theorem dX9_name_71 : decode cX9_name 71 = .ok (.l2i, 1) := by decide +kernel
theorem dX9_name_72 : decode cX9_name 72 = .ok (.goto 4, 3) := by decide +kernel
theorem dX9_name_75 : decode cX9_name 75 = .ok (.iconst 0, 1) := by decide +kernel
theorem dX9_name_76 : decode cX9_name 76 = .ok (.ireturn, 1) := by decide +kernel
noncomputable def tX9_name_17 (x0 : Nat) (x1 : Int64) (x3 : Int32) (h : pm_H) : Option (((Nat × Int64 × Int32 × pm_H)) ⊕ (Int32 × pm_H)) := if pm_kd h x0 = 9 then if (pm_I h x0 1) ≤ x3 then (if (pm_I h x0 3) = 0 then (some (.inr ((x1.toInt32, h)))) else (some (.inr ((0, h))))) else (if (pm_I h x0 3) = 0 then ((fX9_characterLength h x0 x3).bind fun v14 => if v14 = 0 then ((fX9_fail h x0 9 x3).bind fun v19 => pm_let (x3 + (if (1 : Int32) < v14 then v14 else (1 : Int32))) fun y21 => some (.inl ((x0, x1, y21, v19)))) else (pm_let (x3 + (if (1 : Int32) < v14 then v14 else (1 : Int32))) fun y17 => some (.inl ((x0, x1, y17, h))))) else (if (pm_I h x0 3) = 0 then (some (.inr ((x1.toInt32, h)))) else (some (.inr ((0, h)))))) else none
noncomputable def sX9_name : ((Nat × Int64 × Int32 × pm_H)) → Option (((Nat × Int64 × Int32 × pm_H)) ⊕ (Int32 × pm_H)) := fun z => match z with
  | (x0, x1, x3, h) => tX9_name_17 x0 x1 x3 h
noncomputable def fX9_name (h : pm_H) (a0 : Nat) : Option (Int32 × pm_H) := if pm_kd h a0 = 9 then (fX9_number h a0 32).bind fun v2 => if pm_kd v2.2 a0 = 9 then pm_let (pm_I v2.2 a0 1) fun y5 => (fX9_skip v2.2 a0 v2.1).bind fun v7 => pm_lim sX9_name ((a0, v2.1, y5, v7)) else none else none
set_option maxHeartbeats 4000000 in
set_option maxRecDepth 100000 in
theorem lpX9_name {g : pm_Gm} {l : Launch} {G : pm_Gl} {Qr : Option Value → pm_H → Prop} (C : pm_C g cX9_name RX9) (X : pm_X g l G mX9_name 0 0 Qr) {r : (Int32 × pm_H)} (q : Qr (some (.int r.1)) r.2) : ∀ n : Nat, (∀ (x0 : Nat) (x1 : Int64) (x3 : Int32) (h : pm_H), pm_iter sX9_name n (x0, x1, x3, h) = some r → pm_G g 17 [(0, .ref x0), (1, .long x1), (3, .int x3)] [] h 0 0) := by
  intro n
  induction n with
  | zero => exact fun _ _ _ _ hf => (by cases hf)
  | succ n ih =>
    refine fun x0 x1 x3 h hf => ?_
    obtain ⟨y, hf, hi⟩ := pm_iter_s hf
    have hf : tX9_name_17 x0 x1 x3 h = some y := hf
    unfold tX9_name_17 at hf
    refine pm_iload_n C dX9_name_17 rfl rfl ?_
    refine pm_aload_n C dX9_name_18 rfl rfl ?_
    obtain ⟨k9, hf⟩ := pm_if hf
    refine pm_getI C dX9_name_19 flX9_51 rfl k9 rfl ?_
    refine pm_icmp_ge (tgt := 63) C dX9_name_22 (by decide) (fun c10 => ?_) (fun c10 => ?_)
    · have hf := pm_it hf c10
      refine pm_aload_n C dX9_name_63 rfl rfl ?_
      refine pm_getI C dX9_name_64 flX9_40 rfl k9 rfl ?_
      refine pm_if_ne (tgt := 75) C dX9_name_67 (by decide) (fun c11 => ?_) (fun c11 => ?_)
      · have hf := pm_ie hf c11
        refine pm_iconst (v := 0) C dX9_name_75 (by decide) ?_
        cases hf
        cases hi
        exact pm_iret C X dX9_name_76 rfl (Nat.le_refl _) (Nat.le_refl _) q
      · have hf := pm_it hf c11
        refine pm_lload_n C dX9_name_70 rfl rfl ?_
        refine pm_l2i C dX9_name_71 ?_
        refine pm_goto (tgt := 76) C dX9_name_72 (by decide) ?_
        cases hf
        cases hi
        exact pm_iret C X dX9_name_76 rfl (Nat.le_refl _) (Nat.le_refl _) q
    · have hf := pm_ie hf c10
      refine pm_aload_n C dX9_name_25 rfl rfl ?_
      refine pm_getI C dX9_name_26 flX9_40 rfl k9 rfl ?_
      refine pm_if_ne (tgt := 63) C dX9_name_29 (by decide) (fun c12 => ?_) (fun c12 => ?_)
      · have hf := pm_ie hf c12
        refine pm_aload_n C dX9_name_63 rfl rfl ?_
        refine pm_getI C dX9_name_64 flX9_40 rfl k9 rfl ?_
        refine pm_if_ne (tgt := 75) C dX9_name_67 (by decide) (fun c13 => ?_) (fun c13 => ?_)
        · have hf := pm_ie hf c13
          refine pm_iconst (v := 0) C dX9_name_75 (by decide) ?_
          cases hf
          cases hi
          exact pm_iret C X dX9_name_76 rfl (Nat.le_refl _) (Nat.le_refl _) q
        · have hf := pm_it hf c13
          refine pm_lload_n C dX9_name_70 rfl rfl ?_
          refine pm_l2i C dX9_name_71 ?_
          refine pm_goto (tgt := 76) C dX9_name_72 (by decide) ?_
          cases hf
          cases hi
          exact pm_iret C X dX9_name_76 rfl (Nat.le_refl _) (Nat.le_refl _) q
      · have hf := pm_it hf c12
        refine pm_aload_n C dX9_name_32 rfl rfl ?_
        refine pm_iload_n C dX9_name_33 rfl rfl ?_
        obtain ⟨v14, e15, hf⟩ := pm_bd hf
        refine pm_callV (as := [.int x3]) (st := []) C X dX9_name_34 lnX9_261 myX9_characterLength viX9_characterLength ⟨by decide, by decide⟩ rfl rfl k9 (Nat.le_of_ble_eq_true rfl) (Nat.le_refl _) (Nat.le_refl _) (ctX9_characterLength e15 ?_)
        show pm_G g 37 [(0, .ref x0), (1, .long x1), (3, .int x3)] [.int v14] h 0 0
        refine pm_istore (lv' := [(4, .int v14), (0, .ref x0), (1, .long x1), (3, .int x3)]) C dX9_name_37 (pm_nl X (by decide)) rfl ?_
        refine pm_iload C dX9_name_39 rfl ?_
        refine pm_if_ne (tgt := 51) C dX9_name_41 (by decide) (fun c16 => ?_) (fun c16 => ?_)
        · have hf := pm_ie hf c16
          refine pm_iload_n C dX9_name_51 rfl rfl ?_
          refine pm_iconst (v := 1) C dX9_name_52 (by decide) ?_
          refine pm_iload C dX9_name_53 rfl ?_
          refine pm_mmaxI C (pm_XR X) dX9_name_55 mtX9_264 (by decide) (by decide) (Nat.le_of_ble_eq_true rfl) (Nat.zero_le _) (Nat.zero_le _) ?_
          refine pm_iadd C dX9_name_58 ?_
          obtain ⟨y17, e18, hf⟩ := pm_lt hf
          refine pm_topI e18 ?_
          refine pm_istore_n (lv' := [(3, .int y17), (4, .int v14), (0, .ref x0), (1, .long x1)]) C dX9_name_59 rfl (pm_nl X (by decide)) rfl ?_
          refine pm_goto (tgt := 17) C dX9_name_60 (by decide) ?_
          cases hf
          exact pm_sub [2, 3, 0] rfl (ih x0 x1 y17 h hi)
        · have hf := pm_it hf c16
          refine pm_aload_n C dX9_name_44 rfl rfl ?_
          refine pm_bipush (v := 9) C dX9_name_45 (by decide) ?_
          refine pm_iload_n C dX9_name_47 rfl rfl ?_
          obtain ⟨v19, e20, hf⟩ := pm_bd hf
          refine pm_callV (as := [.int 9, .int x3]) (st := []) C X dX9_name_48 lnX9_47 myX9_fail viX9_fail ⟨by decide, by decide⟩ rfl rfl k9 (Nat.le_of_ble_eq_true rfl) (Nat.le_refl _) (Nat.le_refl _) (ctX9_fail e20 ?_)
          show pm_G g 51 [(4, .int v14), (0, .ref x0), (1, .long x1), (3, .int x3)] [] v19 0 0
          refine pm_iload_n C dX9_name_51 rfl rfl ?_
          refine pm_iconst (v := 1) C dX9_name_52 (by decide) ?_
          refine pm_iload C dX9_name_53 rfl ?_
          refine pm_mmaxI C (pm_XR X) dX9_name_55 mtX9_264 (by decide) (by decide) (Nat.le_of_ble_eq_true rfl) (Nat.zero_le _) (Nat.zero_le _) ?_
          refine pm_iadd C dX9_name_58 ?_
          obtain ⟨y21, e22, hf⟩ := pm_lt hf
          refine pm_topI e22 ?_
          refine pm_istore_n (lv' := [(3, .int y21), (4, .int v14), (0, .ref x0), (1, .long x1)]) C dX9_name_59 rfl (pm_nl X (by decide)) rfl ?_
          refine pm_goto (tgt := 17) C dX9_name_60 (by decide) ?_
          cases hf
          exact pm_sub [2, 3, 0] rfl (ih x0 x1 y21 v19 hi)
set_option maxHeartbeats 4000000 in
set_option maxRecDepth 100000 in
theorem ctX9_name {l : Launch} {G : pm_Gl} {h : pm_H} {a0 : Nat} {r : (Int32 × pm_H)} {Qr : Option Value → pm_H → Prop} (hf : fX9_name h a0 = some r) (q : Qr (some (.int r.1)) r.2) : pm_Ct l G mX9_name [.ref a0] h 0 0 Qr := by
  refine pm_body pnX9 (Nat.le_of_ble_eq_true rfl) (fun g C X => ?_)
  have C : pm_C g cX9_name RX9 := C
  show pm_G g 0 [(0, .ref a0)] [] h 0 0
  unfold fX9_name at hf
  refine pm_aload_n C dX9_name_0 rfl rfl ?_
  refine pm_bipush (v := 32) C dX9_name_1 (by decide) ?_
  obtain ⟨k1, hf⟩ := pm_if hf
  obtain ⟨v2, e3, hf⟩ := pm_bd hf
  refine pm_callV (as := [.int 32]) (st := []) C X dX9_name_3 lnX9_145 myX9_number viX9_number ⟨by decide, by decide⟩ rfl rfl k1 (Nat.le_of_ble_eq_true rfl) (Nat.le_refl _) (Nat.le_refl _) (ctX9_number e3 ?_)
  show pm_G g 6 [(0, .ref a0)] [.long v2.1] v2.2 0 0
  refine pm_lstore_n (lv' := [(1, .long v2.1), (0, .ref a0)]) C dX9_name_6 rfl (pm_nl X (by decide)) rfl ?_
  refine pm_aload_n C dX9_name_7 rfl rfl ?_
  obtain ⟨k4, hf⟩ := pm_if hf
  refine pm_getI C dX9_name_8 flX9_51 rfl k4 rfl ?_
  obtain ⟨y5, e6, hf⟩ := pm_lt hf
  refine pm_topI e6 ?_
  refine pm_istore_n (lv' := [(3, .int y5), (1, .long v2.1), (0, .ref a0)]) C dX9_name_11 rfl (pm_nl X (by decide)) rfl ?_
  refine pm_aload_n C dX9_name_12 rfl rfl ?_
  refine pm_lload_n C dX9_name_13 rfl rfl ?_
  obtain ⟨v7, e8, hf⟩ := pm_bd hf
  refine pm_callV (as := [.long v2.1]) (st := []) C X dX9_name_14 lnX9_159 myX9_skip viX9_skip ⟨by decide, by decide⟩ rfl rfl k4 (Nat.le_of_ble_eq_true rfl) (Nat.le_refl _) (Nat.le_refl _) (ctX9_skip e8 ?_)
  show pm_G g 17 [(3, .int y5), (1, .long v2.1), (0, .ref a0)] [] v7 0 0
  obtain ⟨n, hn⟩ := pm_lim_iter hf
  exact pm_sub [2, 1, 0] rfl ((lpX9_name C X q n) a0 v2.1 y5 v7 hn)
theorem dX10_alongMemory_0 : decode cX10_alongMemory 0 = .ok (.aload_n 1, 1) := by decide +kernel
theorem dX10_alongMemory_1 : decode cX10_alongMemory 1 = .ok (.getfield 197, 3) := by decide +kernel
theorem dX10_alongMemory_4 : decode cX10_alongMemory 4 = .ok (.iconst 0, 1) := by decide +kernel
theorem dX10_alongMemory_5 : decode cX10_alongMemory 5 = .ok (.invokestatic 104, 3) := by decide +kernel
theorem dX10_alongMemory_8 : decode cX10_alongMemory 8 = .ok (.istore 10, 2) := by decide +kernel
theorem dX10_alongMemory_10 : decode cX10_alongMemory 10 = .ok (.iload_n 2, 1) := by decide +kernel
theorem dX10_alongMemory_11 : decode cX10_alongMemory 11 = .ok (.sipush 309, 3) := by decide +kernel
theorem dX10_alongMemory_14 : decode cX10_alongMemory 14 = .ok (.if_icmp .ne 14, 3) := by decide +kernel
theorem dX10_alongMemory_17 : decode cX10_alongMemory 17 = .ok (.aload_n 1, 1) := by decide +kernel
theorem dX10_alongMemory_18 : decode cX10_alongMemory 18 = .ok (.getfield 216, 3) := by decide +kernel
theorem dX10_alongMemory_21 : decode cX10_alongMemory 21 = .ok (.iload_n 3, 1) := by decide +kernel
theorem dX10_alongMemory_22 : decode cX10_alongMemory 22 = .ok (.iconst 0, 1) := by decide +kernel
theorem dX10_alongMemory_23 : decode cX10_alongMemory 23 = .ok (.invokestatic 184, 3) := by decide +kernel
theorem dX10_alongMemory_26 : decode cX10_alongMemory 26 = .ok (.lconst 0, 1) := by decide +kernel
theorem dX10_alongMemory_27 : decode cX10_alongMemory 27 = .ok (.lreturn, 1) := by decide +kernel
theorem dX10_alongMemory_28 : decode cX10_alongMemory 28 = .ok (.aload_n 0, 1) := by decide +kernel
theorem dX10_alongMemory_29 : decode cX10_alongMemory 29 = .ok (.getfield 21, 3) := by decide +kernel
theorem dX10_alongMemory_32 : decode cX10_alongMemory 32 = .ok (.iload 10, 2) := by decide +kernel
theorem dX10_alongMemory_34 : decode cX10_alongMemory 34 = .ok (.lload 4, 2) := by decide +kernel
theorem dX10_alongMemory_36 : decode cX10_alongMemory 36 = .ok (.lload 8, 2) := by decide +kernel
theorem dX10_alongMemory_38 : decode cX10_alongMemory 38 = .ok (.invokevirtual 298, 3) := by decide +kernel
theorem dX10_alongMemory_41 : decode cX10_alongMemory 41 = .ok (.istore 11, 2) := by decide +kernel
theorem dX10_alongMemory_43 : decode cX10_alongMemory 43 = .ok (.iload_n 2, 1) := by decide +kernel
theorem dX10_alongMemory_44 : decode cX10_alongMemory 44 = .ok (.sipush 308, 3) := by decide +kernel
theorem dX10_alongMemory_47 : decode cX10_alongMemory 47 = .ok (.if_icmp .ne 24, 3) := by decide +kernel
theorem dX10_alongMemory_50 : decode cX10_alongMemory 50 = .ok (.lload 6, 2) := by decide +kernel
theorem dX10_alongMemory_52 : decode cX10_alongMemory 52 = .ok (.lload 8, 2) := by decide +kernel
theorem dX10_alongMemory_54 : decode cX10_alongMemory 54 = .ok (.ladd, 1) := by decide +kernel
theorem dX10_alongMemory_55 : decode cX10_alongMemory 55 = .ok (.aload_n 1, 1) := by decide +kernel
theorem dX10_alongMemory_56 : decode cX10_alongMemory 56 = .ok (.getfield 216, 3) := by decide +kernel
theorem dX10_alongMemory_59 : decode cX10_alongMemory 59 = .ok (.iload_n 3, 1) := by decide +kernel
theorem dX10_alongMemory_60 : decode cX10_alongMemory 60 = .ok (.invokestatic 104, 3) := by decide +kernel
theorem dX10_alongMemory_63 : decode cX10_alongMemory 63 = .ok (.i2l, 1) := by decide +kernel
theorem dX10_alongMemory_64 : decode cX10_alongMemory 64 = .ok (.lcmp, 1) := by decide +kernel
theorem dX10_alongMemory_65 : decode cX10_alongMemory 65 = .ok (.ifCond .le 6, 3) := by decide +kernel
theorem dX10_alongMemory_68 : decode cX10_alongMemory 68 = .ok (.iconst 0, 1) := by decide +kernel
theorem dX10_alongMemory_69 : decode cX10_alongMemory 69 = .ok (.istore 11, 2) := by decide +kernel
theorem dX10_alongMemory_71 : decode cX10_alongMemory 71 = .ok (.iload_n 2, 1) := by decide +kernel
theorem dX10_alongMemory_72 : decode cX10_alongMemory 72 = .ok (.sipush 310, 3) := by decide +kernel
theorem dX10_alongMemory_75 : decode cX10_alongMemory 75 = .ok (.if_icmp .ne 22, 3) := by decide +kernel
theorem dX10_alongMemory_78 : decode cX10_alongMemory 78 = .ok (.aload_n 0, 1) := by decide +kernel
theorem dX10_alongMemory_79 : decode cX10_alongMemory 79 = .ok (.getfield 21, 3) := by decide +kernel
theorem dX10_alongMemory_82 : decode cX10_alongMemory 82 = .ok (.iload 10, 2) := by decide +kernel
theorem dX10_alongMemory_84 : decode cX10_alongMemory 84 = .ok (.lload 6, 2) := by decide +kernel
theorem dX10_alongMemory_86 : decode cX10_alongMemory 86 = .ok (.lload 8, 2) := by decide +kernel
theorem dX10_alongMemory_88 : decode cX10_alongMemory 88 = .ok (.invokevirtual 298, 3) := by decide +kernel
theorem dX10_alongMemory_91 : decode cX10_alongMemory 91 = .ok (.ifCond .ne 6, 3) := by decide +kernel
theorem dX10_alongMemory_94 : decode cX10_alongMemory 94 = .ok (.iconst 0, 1) := by decide +kernel
theorem dX10_alongMemory_95 : decode cX10_alongMemory 95 = .ok (.istore 11, 2) := by decide +kernel
theorem dX10_alongMemory_97 : decode cX10_alongMemory 97 = .ok (.iload 11, 2) := by decide +kernel
theorem dX10_alongMemory_99 : decode cX10_alongMemory 99 = .ok (.ifCond .ne 10, 3) := by decide +kernel
theorem dX10_alongMemory_102 : decode cX10_alongMemory 102 = .ok (.aload_n 0, 1) := by decide +kernel
theorem dX10_alongMemory_103 : decode cX10_alongMemory 103 = .ok (.iconst 5, 1) := by decide +kernel
theorem dX10_alongMemory_104 : decode cX10_alongMemory 104 = .ok (.putfield 263, 3) := by decide +kernel
theorem dX10_alongMemory_107 : decode cX10_alongMemory 107 = .ok (.lconst 0, 1) := by decide +kernel
theorem dX10_alongMemory_108 : decode cX10_alongMemory 108 = .ok (.lreturn, 1) := by decide +kernel
theorem dX10_alongMemory_109 : decode cX10_alongMemory 109 = .ok (.iload_n 2, 1) := by decide +kernel
theorem dX10_alongMemory_110 : decode cX10_alongMemory 110 = .ok (.sipush 310, 3) := by decide +kernel
theorem dX10_alongMemory_113 : decode cX10_alongMemory 113 = .ok (.if_icmp .ne 18, 3) := by decide +kernel
theorem dX10_alongMemory_116 : decode cX10_alongMemory 116 = .ok (.aload_n 0, 1) := by decide +kernel
theorem dX10_alongMemory_117 : decode cX10_alongMemory 117 = .ok (.getfield 21, 3) := by decide +kernel
theorem dX10_alongMemory_120 : decode cX10_alongMemory 120 = .ok (.iload 10, 2) := by decide +kernel
theorem dX10_alongMemory_122 : decode cX10_alongMemory 122 = .ok (.lload 4, 2) := by decide +kernel
theorem dX10_alongMemory_124 : decode cX10_alongMemory 124 = .ok (.lload 6, 2) := by decide +kernel
theorem dX10_alongMemory_126 : decode cX10_alongMemory 126 = .ok (.lload 8, 2) := by decide +kernel
theorem dX10_alongMemory_128 : decode cX10_alongMemory 128 = .ok (.invokevirtual 310, 3) := by decide +kernel
theorem dX10_alongMemory_131 : decode cX10_alongMemory 131 = .ok (.iload_n 2, 1) := by decide +kernel
theorem dX10_alongMemory_132 : decode cX10_alongMemory 132 = .ok (.sipush 311, 3) := by decide +kernel
theorem dX10_alongMemory_135 : decode cX10_alongMemory 135 = .ok (.if_icmp .ne 19, 3) := by decide +kernel
theorem dX10_alongMemory_138 : decode cX10_alongMemory 138 = .ok (.aload_n 0, 1) := by decide +kernel
theorem dX10_alongMemory_139 : decode cX10_alongMemory 139 = .ok (.getfield 21, 3) := by decide +kernel
theorem dX10_alongMemory_142 : decode cX10_alongMemory 142 = .ok (.iload 10, 2) := by decide +kernel
theorem dX10_alongMemory_144 : decode cX10_alongMemory 144 = .ok (.lload 4, 2) := by decide +kernel
theorem dX10_alongMemory_146 : decode cX10_alongMemory 146 = .ok (.lload 6, 2) := by decide +kernel
theorem dX10_alongMemory_148 : decode cX10_alongMemory 148 = .ok (.l2i, 1) := by decide +kernel
theorem dX10_alongMemory_149 : decode cX10_alongMemory 149 = .ok (.lload 8, 2) := by decide +kernel
theorem dX10_alongMemory_151 : decode cX10_alongMemory 151 = .ok (.invokevirtual 314, 3) := by decide +kernel
theorem dX10_alongMemory_154 : decode cX10_alongMemory 154 = .ok (.iload_n 2, 1) := by decide +kernel
theorem dX10_alongMemory_155 : decode cX10_alongMemory 155 = .ok (.sipush 308, 3) := by decide +kernel
theorem dX10_alongMemory_158 : decode cX10_alongMemory 158 = .ok (.if_icmp .ne 97, 3) := by decide +kernel
theorem dX10_alongMemory_161 : decode cX10_alongMemory 161 = .ok (.aload_n 1, 1) := by decide +kernel
theorem dX10_alongMemory_162 : decode cX10_alongMemory 162 = .ok (.getfield 222, 3) := by decide +kernel
theorem dX10_alongMemory_165 : decode cX10_alongMemory 165 = .ok (.getfield 318, 3) := by decide +kernel
theorem dX10_alongMemory_168 : decode cX10_alongMemory 168 = .ok (.astore 12, 2) := by decide +kernel
theorem dX10_alongMemory_170 : decode cX10_alongMemory 170 = .ok (.aload_n 1, 1) := by decide +kernel
theorem dX10_alongMemory_171 : decode cX10_alongMemory 171 = .ok (.getfield 222, 3) := by decide +kernel
theorem dX10_alongMemory_174 : decode cX10_alongMemory 174 = .ok (.getfield 219, 3) := by decide +kernel
theorem dX10_alongMemory_177 : decode cX10_alongMemory 177 = .ok (.iload_n 3, 1) := by decide +kernel
theorem dX10_alongMemory_178 : decode cX10_alongMemory 178 = .ok (.bipush 7, 2) := by decide +kernel
theorem dX10_alongMemory_180 : decode cX10_alongMemory 180 = .ok (.imul, 1) := by decide +kernel
theorem dX10_alongMemory_181 : decode cX10_alongMemory 181 = .ok (.iconst 3, 1) := by decide +kernel
theorem dX10_alongMemory_182 : decode cX10_alongMemory 182 = .ok (.iadd, 1) := by decide +kernel
theorem dX10_alongMemory_183 : decode cX10_alongMemory 183 = .ok (.invokestatic 104, 3) := by decide +kernel
theorem dX10_alongMemory_186 : decode cX10_alongMemory 186 = .ok (.i2l, 1) := by decide +kernel
theorem dX10_alongMemory_187 : decode cX10_alongMemory 187 = .ok (.lload 6, 2) := by decide +kernel
theorem dX10_alongMemory_189 : decode cX10_alongMemory 189 = .ok (.ladd, 1) := by decide +kernel
theorem dX10_alongMemory_190 : decode cX10_alongMemory 190 = .ok (.lstore 13, 2) := by decide +kernel
theorem dX10_alongMemory_192 : decode cX10_alongMemory 192 = .ok (.lconst 0, 1) := by decide +kernel
theorem dX10_alongMemory_193 : decode cX10_alongMemory 193 = .ok (.lstore 15, 2) := by decide +kernel
theorem dX10_alongMemory_195 : decode cX10_alongMemory 195 = .ok (.lload 15, 2) := by decide +kernel
theorem dX10_alongMemory_197 : decode cX10_alongMemory 197 = .ok (.lload 8, 2) := by decide +kernel
theorem dX10_alongMemory_199 : decode cX10_alongMemory 199 = .ok (.lcmp, 1) := by decide +kernel
theorem dX10_alongMemory_200 : decode cX10_alongMemory 200 = .ok (.ifCond .ge 55, 3) := by decide +kernel
theorem dX10_alongMemory_203 : decode cX10_alongMemory 203 = .ok (.lload 13, 2) := by decide +kernel
theorem dX10_alongMemory_205 : decode cX10_alongMemory 205 = .ok (.lconst 0, 1) := by decide +kernel
theorem dX10_alongMemory_206 : decode cX10_alongMemory 206 = .ok (.lcmp, 1) := by decide +kernel
theorem dX10_alongMemory_207 : decode cX10_alongMemory 207 = .ok (.ifCond .lt 48, 3) := by decide +kernel
theorem dX10_alongMemory_210 : decode cX10_alongMemory 210 = .ok (.lload 13, 2) := by decide +kernel
theorem dX10_alongMemory_212 : decode cX10_alongMemory 212 = .ok (.lload 15, 2) := by decide +kernel
theorem dX10_alongMemory_214 : decode cX10_alongMemory 214 = .ok (.ladd, 1) := by decide +kernel
theorem dX10_alongMemory_215 : decode cX10_alongMemory 215 = .ok (.aload 12, 2) := by decide +kernel
theorem dX10_alongMemory_217 : decode cX10_alongMemory 217 = .ok (.arraylength, 1) := by decide +kernel
theorem dX10_alongMemory_218 : decode cX10_alongMemory 218 = .ok (.i2l, 1) := by decide +kernel
theorem dX10_alongMemory_219 : decode cX10_alongMemory 219 = .ok (.lcmp, 1) := by decide +kernel
theorem dX10_alongMemory_220 : decode cX10_alongMemory 220 = .ok (.ifCond .ge 35, 3) := by decide +kernel
theorem dX10_alongMemory_223 : decode cX10_alongMemory 223 = .ok (.aload_n 0, 1) := by decide +kernel
theorem dX10_alongMemory_224 : decode cX10_alongMemory 224 = .ok (.getfield 21, 3) := by decide +kernel
theorem dX10_alongMemory_227 : decode cX10_alongMemory 227 = .ok (.iload 10, 2) := by decide +kernel
theorem dX10_alongMemory_229 : decode cX10_alongMemory 229 = .ok (.lload 4, 2) := by decide +kernel
theorem dX10_alongMemory_231 : decode cX10_alongMemory 231 = .ok (.lload 15, 2) := by decide +kernel
theorem dX10_alongMemory_233 : decode cX10_alongMemory 233 = .ok (.ladd, 1) := by decide +kernel
theorem dX10_alongMemory_234 : decode cX10_alongMemory 234 = .ok (.aload 12, 2) := by decide +kernel
theorem dX10_alongMemory_236 : decode cX10_alongMemory 236 = .ok (.lload 13, 2) := by decide +kernel
theorem dX10_alongMemory_238 : decode cX10_alongMemory 238 = .ok (.lload 15, 2) := by decide +kernel
theorem dX10_alongMemory_240 : decode cX10_alongMemory 240 = .ok (.ladd, 1) := by decide +kernel
theorem dX10_alongMemory_241 : decode cX10_alongMemory 241 = .ok (.l2i, 1) := by decide +kernel
theorem dX10_alongMemory_242 : decode cX10_alongMemory 242 = .ok (.baload, 1) := by decide +kernel
theorem dX10_alongMemory_243 : decode cX10_alongMemory 243 = .ok (.invokevirtual 322, 3) := by decide +kernel
theorem dX10_alongMemory_246 : decode cX10_alongMemory 246 = .ok (.lload 15, 2) := by decide +kernel
theorem dX10_alongMemory_248 : decode cX10_alongMemory 248 = .ok (.lconst 1, 1) := by decide +kernel
theorem dX10_alongMemory_249 : decode cX10_alongMemory 249 = .ok (.ladd, 1) := by decide +kernel
theorem dX10_alongMemory_250 : decode cX10_alongMemory 250 = .ok (.lstore 15, 2) := by decide +kernel
theorem dX10_alongMemory_252 : decode cX10_alongMemory 252 = .ok (.goto (-57), 3) := by decide +kernel
theorem dX10_alongMemory_255 : decode cX10_alongMemory 255 = .ok (.lconst 0, 1) := by decide +kernel
theorem dX10_alongMemory_256 : decode cX10_alongMemory 256 = .ok (.lreturn, 1) := by decide +kernel
noncomputable def tX10_alongMemory_71 (x0 : Nat) (x1 : Nat) (x2 : Int32) (x3 : Int32) (x4 : Int64) (x6 : Int64) (x8 : Int64) (x10 : Int32) (x11 : Int32) (h : pm_H) : Option (((Nat × Nat × Int32 × Int32 × Int64 × Int64 × Int64 × Int32 × Int32 × pm_H) ⊕ (Nat × Nat × Int32 × Int32 × Int64 × Int64 × Int64 × Int32 × Int32 × pm_H) ⊕ (Nat × Nat × Int32 × Int32 × Int64 × Int64 × Int64 × Int32 × pm_H) ⊕ (Nat × Int64 × Int64 × Int32 × Nat × Int64 × Int64 × pm_H)) ⊕ (Int64 × pm_H)) := if x2 = 310 then (if pm_kd h x0 = 10 then (pm_R h x0 5).bind fun v25 => if pm_kd h v25 = 6 then (fX6_reaches h v25 x10 x6 x8).bind fun v28 => if v28 = 0 then (some (.inl (.inr (.inl ((x0, x1, x2, x3, x4, x6, x8, x10, 0, h)))))) else (some (.inl (.inr (.inl ((x0, x1, x2, x3, x4, x6, x8, x10, x11, h)))))) else none else none) else (some (.inl (.inr (.inl ((x0, x1, x2, x3, x4, x6, x8, x10, x11, h))))))
noncomputable def tX10_alongMemory_97 (x0 : Nat) (x1 : Nat) (x2 : Int32) (x3 : Int32) (x4 : Int64) (x6 : Int64) (x8 : Int64) (x10 : Int32) (x11 : Int32) (h : pm_H) : Option (((Nat × Nat × Int32 × Int32 × Int64 × Int64 × Int64 × Int32 × Int32 × pm_H) ⊕ (Nat × Nat × Int32 × Int32 × Int64 × Int64 × Int64 × Int32 × Int32 × pm_H) ⊕ (Nat × Nat × Int32 × Int32 × Int64 × Int64 × Int64 × Int32 × pm_H) ⊕ (Nat × Int64 × Int64 × Int32 × Nat × Int64 × Int64 × pm_H)) ⊕ (Int64 × pm_H)) := if x11 = 0 then (if pm_kd h x0 = 10 then some (.inr ((0, pm_setI h x0 0 5))) else none) else (if x2 = 310 then (if pm_kd h x0 = 10 then (pm_R h x0 5).bind fun v34 => if pm_kd h v34 = 6 then (fX6_copy h v34 x10 x4 x6 x8).bind fun v37 => some (.inl (.inr (.inr (.inl ((x0, x1, x2, x3, x4, x6, x8, x10, v37)))))) else none else none) else (some (.inl (.inr (.inr (.inl ((x0, x1, x2, x3, x4, x6, x8, x10, h))))))))
noncomputable def tX10_alongMemory_131 (x0 : Nat) (x1 : Nat) (x2 : Int32) (x3 : Int32) (x4 : Int64) (x6 : Int64) (x8 : Int64) (x10 : Int32) (h : pm_H) : Option (((Nat × Nat × Int32 × Int32 × Int64 × Int64 × Int64 × Int32 × Int32 × pm_H) ⊕ (Nat × Nat × Int32 × Int32 × Int64 × Int64 × Int64 × Int32 × Int32 × pm_H) ⊕ (Nat × Nat × Int32 × Int32 × Int64 × Int64 × Int64 × Int32 × pm_H) ⊕ (Nat × Int64 × Int64 × Int32 × Nat × Int64 × Int64 × pm_H)) ⊕ (Int64 × pm_H)) := if x2 = 311 then (if pm_kd h x0 = 10 then (pm_R h x0 5).bind fun v55 => if pm_kd h v55 = 6 then (fX6_fill h v55 x10 x4 x6.toInt32 x8).bind fun v58 => if x2 = 308 then (if pm_kd v58 x1 = 4 then (pm_R v58 x1 0).bind fun v62 => if pm_kd v58 v62 = 7 then (pm_R v58 v62 0).bind fun v65 => (pm_R v58 v62 10).bind fun v67 => (fX12_item v58 v67 ((x3 * 7) + 3)).bind fun v69 => pm_let (v69.toInt64 + x6) fun y71 => some (.inl (.inr (.inr (.inr ((x0, x4, x8, x10, v65, y71, 0, v58)))))) else none else none) else (some (.inr ((0, v58)))) else none else none) else (if x2 = 308 then (if pm_kd h x1 = 4 then (pm_R h x1 0).bind fun v43 => if pm_kd h v43 = 7 then (pm_R h v43 0).bind fun v46 => (pm_R h v43 10).bind fun v48 => (fX12_item h v48 ((x3 * 7) + 3)).bind fun v50 => pm_let (v50.toInt64 + x6) fun y52 => some (.inl (.inr (.inr (.inr ((x0, x4, x8, x10, v46, y52, 0, h)))))) else none else none) else (some (.inr ((0, h)))))
noncomputable def tX10_alongMemory_195 (x0 : Nat) (x4 : Int64) (x8 : Int64) (x10 : Int32) (x12 : Nat) (x13 : Int64) (x15 : Int64) (h : pm_H) : Option (((Nat × Nat × Int32 × Int32 × Int64 × Int64 × Int64 × Int32 × Int32 × pm_H) ⊕ (Nat × Nat × Int32 × Int32 × Int64 × Int64 × Int64 × Int32 × Int32 × pm_H) ⊕ (Nat × Nat × Int32 × Int32 × Int64 × Int64 × Int64 × Int32 × pm_H) ⊕ (Nat × Int64 × Int64 × Int32 × Nat × Int64 × Int64 × pm_H)) ⊕ (Int64 × pm_H)) := if x8 ≤ x15 then (some (.inr ((0, h)))) else (if x13 < 0 then (some (.inr ((0, h)))) else (if pm_kd h x12 = 33 then if ((Int32.ofNat (pm_ln h x12)).toInt64) ≤ (x13 + x15) then (some (.inr ((0, h)))) else (if pm_kd h x0 = 10 then (pm_R h x0 5).bind fun v78 => pm_let ((x13 + x15).toInt32) fun y80 => if pm_in y80 (pm_ln h x12) then if pm_kd h v78 = 6 then (fX6_setByte h v78 x10 (x4 + x15) (pm_I h x12 y80.toNatClampNeg)).bind fun v84 => pm_let (x15 + 1) fun y86 => some (.inl (.inr (.inr (.inr ((x0, x4, x8, x10, x12, x13, y86, v84)))))) else none else none else none) else none))
noncomputable def sX10_alongMemory : ((Nat × Nat × Int32 × Int32 × Int64 × Int64 × Int64 × Int32 × Int32 × pm_H) ⊕ (Nat × Nat × Int32 × Int32 × Int64 × Int64 × Int64 × Int32 × Int32 × pm_H) ⊕ (Nat × Nat × Int32 × Int32 × Int64 × Int64 × Int64 × Int32 × pm_H) ⊕ (Nat × Int64 × Int64 × Int32 × Nat × Int64 × Int64 × pm_H)) → Option (((Nat × Nat × Int32 × Int32 × Int64 × Int64 × Int64 × Int32 × Int32 × pm_H) ⊕ (Nat × Nat × Int32 × Int32 × Int64 × Int64 × Int64 × Int32 × Int32 × pm_H) ⊕ (Nat × Nat × Int32 × Int32 × Int64 × Int64 × Int64 × Int32 × pm_H) ⊕ (Nat × Int64 × Int64 × Int32 × Nat × Int64 × Int64 × pm_H)) ⊕ (Int64 × pm_H)) := fun z => match z with
  | .inl (x0, x1, x2, x3, x4, x6, x8, x10, x11, h) => tX10_alongMemory_71 x0 x1 x2 x3 x4 x6 x8 x10 x11 h
  | .inr (.inl (x0, x1, x2, x3, x4, x6, x8, x10, x11, h)) => tX10_alongMemory_97 x0 x1 x2 x3 x4 x6 x8 x10 x11 h
  | .inr (.inr (.inl (x0, x1, x2, x3, x4, x6, x8, x10, h))) => tX10_alongMemory_131 x0 x1 x2 x3 x4 x6 x8 x10 h
  | .inr (.inr (.inr (x0, x4, x8, x10, x12, x13, x15, h))) => tX10_alongMemory_195 x0 x4 x8 x10 x12 x13 x15 h
noncomputable def fX10_alongMemory (h : pm_H) (a0 : Nat) (p1 : Nat) (p2 : Int32) (p3 : Int32) (p4 : Int64) (p5 : Int64) (p6 : Int64) : Option (Int64 × pm_H) := if pm_kd h p1 = 4 then (pm_R h p1 3).bind fun v2 => (fX12_item h v2 0).bind fun v4 => if p2 = 309 then ((pm_R h p1 7).bind fun v19 => (fX12_setItem h v19 p3 0).bind fun v21 => some ((0, v21))) else (if pm_kd h a0 = 10 then (pm_R h a0 5).bind fun v8 => if pm_kd h v8 = 6 then (fX6_reaches h v8 v4 p4 p6).bind fun v11 => if p2 = 308 then ((pm_R h p1 7).bind fun v14 => (fX12_item h v14 p3).bind fun v16 => if (p5 + p6) ≤ v16.toInt64 then (pm_lim sX10_alongMemory (.inl ((a0, p1, p2, p3, p4, p5, p6, v4, v11, h)))) else (pm_lim sX10_alongMemory (.inl ((a0, p1, p2, p3, p4, p5, p6, v4, 0, h))))) else (pm_lim sX10_alongMemory (.inl ((a0, p1, p2, p3, p4, p5, p6, v4, v11, h)))) else none else none) else none
set_option maxHeartbeats 4000000 in
set_option maxRecDepth 100000 in
theorem lpX10_alongMemory {g : pm_Gm} {l : Launch} {G : pm_Gl} {Qr : Option Value → pm_H → Prop} (C : pm_C g cX10_alongMemory RX10) (X : pm_X g l G mX10_alongMemory 0 0 Qr) {r : (Int64 × pm_H)} (q : Qr (some (.long r.1)) r.2) : ∀ n : Nat, (∀ (x0 : Nat) (x1 : Nat) (x2 : Int32) (x3 : Int32) (x4 : Int64) (x6 : Int64) (x8 : Int64) (x10 : Int32) (x11 : Int32) (h : pm_H), pm_iter sX10_alongMemory n (.inl (x0, x1, x2, x3, x4, x6, x8, x10, x11, h)) = some r → pm_G g 71 [(0, .ref x0), (1, .ref x1), (2, .int x2), (3, .int x3), (4, .long x4), (6, .long x6), (8, .long x8), (10, .int x10), (11, .int x11)] [] h 0 0) ∧ (∀ (x0 : Nat) (x1 : Nat) (x2 : Int32) (x3 : Int32) (x4 : Int64) (x6 : Int64) (x8 : Int64) (x10 : Int32) (x11 : Int32) (h : pm_H), pm_iter sX10_alongMemory n (.inr (.inl (x0, x1, x2, x3, x4, x6, x8, x10, x11, h))) = some r → pm_G g 97 [(0, .ref x0), (1, .ref x1), (2, .int x2), (3, .int x3), (4, .long x4), (6, .long x6), (8, .long x8), (10, .int x10), (11, .int x11)] [] h 0 0) ∧ (∀ (x0 : Nat) (x1 : Nat) (x2 : Int32) (x3 : Int32) (x4 : Int64) (x6 : Int64) (x8 : Int64) (x10 : Int32) (h : pm_H), pm_iter sX10_alongMemory n (.inr (.inr (.inl (x0, x1, x2, x3, x4, x6, x8, x10, h)))) = some r → pm_G g 131 [(0, .ref x0), (1, .ref x1), (2, .int x2), (3, .int x3), (4, .long x4), (6, .long x6), (8, .long x8), (10, .int x10)] [] h 0 0) ∧ (∀ (x0 : Nat) (x4 : Int64) (x8 : Int64) (x10 : Int32) (x12 : Nat) (x13 : Int64) (x15 : Int64) (h : pm_H), pm_iter sX10_alongMemory n (.inr (.inr (.inr (x0, x4, x8, x10, x12, x13, x15, h)))) = some r → pm_G g 195 [(0, .ref x0), (4, .long x4), (8, .long x8), (10, .int x10), (12, .ref x12), (13, .long x13), (15, .long x15)] [] h 0 0) := by
  intro n
  induction n with
  | zero => exact ⟨fun _ _ _ _ _ _ _ _ _ _ hf => (by cases hf), fun _ _ _ _ _ _ _ _ _ _ hf => (by cases hf), fun _ _ _ _ _ _ _ _ _ hf => (by cases hf), fun _ _ _ _ _ _ _ _ hf => (by cases hf)⟩
  | succ n ih =>
    refine ⟨fun x0 x1 x2 x3 x4 x6 x8 x10 x11 h hf => ?_, ?_⟩
    · obtain ⟨y, hf, hi⟩ := pm_iter_s hf
      have hf : tX10_alongMemory_71 x0 x1 x2 x3 x4 x6 x8 x10 x11 h = some y := hf
      unfold tX10_alongMemory_71 at hf
      refine pm_iload_n C dX10_alongMemory_71 rfl rfl ?_
      refine pm_sipush (v := 310) C dX10_alongMemory_72 (by decide) ?_
      refine pm_icmp_ne (tgt := 97) C dX10_alongMemory_75 (by decide) (fun c23 => ?_) (fun c23 => ?_)
      · have hf := pm_ie hf c23
        cases hf
        exact pm_sub [0, 1, 2, 3, 4, 5, 6, 7, 8] rfl (ih.2.1 x0 x1 x2 x3 x4 x6 x8 x10 x11 h hi)
      · have hf := pm_it hf c23
        refine pm_aload_n C dX10_alongMemory_78 rfl rfl ?_
        obtain ⟨k24, hf⟩ := pm_if hf
        obtain ⟨v25, e26, hf⟩ := pm_bd hf
        refine pm_getR C dX10_alongMemory_79 flX10_21 rfl k24 e26 ?_
        refine pm_iload C dX10_alongMemory_82 rfl ?_
        refine pm_lload C dX10_alongMemory_84 rfl ?_
        refine pm_lload C dX10_alongMemory_86 rfl ?_
        obtain ⟨k27, hf⟩ := pm_if hf
        obtain ⟨v28, e29, hf⟩ := pm_bd hf
        refine pm_callV (as := [.int x10, .long x6, .long x8]) (st := []) C X dX10_alongMemory_88 lnX10_298 myX6_reaches viX6_reaches ⟨by decide, by decide⟩ rfl rfl k27 (Nat.le_of_ble_eq_true rfl) (Nat.le_refl _) (Nat.le_refl _) (ctX6_reaches e29 ?_)
        show pm_G g 91 [(0, .ref x0), (1, .ref x1), (2, .int x2), (3, .int x3), (4, .long x4), (6, .long x6), (8, .long x8), (10, .int x10), (11, .int x11)] [.int v28] h 0 0
        refine pm_if_ne (tgt := 97) C dX10_alongMemory_91 (by decide) (fun c30 => ?_) (fun c30 => ?_)
        · have hf := pm_ie hf c30
          cases hf
          exact pm_sub [0, 1, 2, 3, 4, 5, 6, 7, 8] rfl (ih.2.1 x0 x1 x2 x3 x4 x6 x8 x10 x11 h hi)
        · have hf := pm_it hf c30
          refine pm_iconst (v := 0) C dX10_alongMemory_94 (by decide) ?_
          refine pm_istore (lv' := [(11, .int 0), (0, .ref x0), (1, .ref x1), (2, .int x2), (3, .int x3), (4, .long x4), (6, .long x6), (8, .long x8), (10, .int x10)]) C dX10_alongMemory_95 (pm_nl X (by decide)) rfl ?_
          cases hf
          exact pm_sub [1, 2, 3, 4, 5, 6, 7, 8, 0] rfl (ih.2.1 x0 x1 x2 x3 x4 x6 x8 x10 0 h hi)
    refine ⟨fun x0 x1 x2 x3 x4 x6 x8 x10 x11 h hf => ?_, ?_⟩
    · obtain ⟨y, hf, hi⟩ := pm_iter_s hf
      have hf : tX10_alongMemory_97 x0 x1 x2 x3 x4 x6 x8 x10 x11 h = some y := hf
      unfold tX10_alongMemory_97 at hf
      refine pm_iload C dX10_alongMemory_97 rfl ?_
      refine pm_if_ne (tgt := 109) C dX10_alongMemory_99 (by decide) (fun c31 => ?_) (fun c31 => ?_)
      · have hf := pm_ie hf c31
        refine pm_iload_n C dX10_alongMemory_109 rfl rfl ?_
        refine pm_sipush (v := 310) C dX10_alongMemory_110 (by decide) ?_
        refine pm_icmp_ne (tgt := 131) C dX10_alongMemory_113 (by decide) (fun c32 => ?_) (fun c32 => ?_)
        · have hf := pm_ie hf c32
          cases hf
          exact pm_sub [0, 1, 2, 3, 4, 5, 6, 7] rfl (ih.2.2.1 x0 x1 x2 x3 x4 x6 x8 x10 h hi)
        · have hf := pm_it hf c32
          refine pm_aload_n C dX10_alongMemory_116 rfl rfl ?_
          obtain ⟨k33, hf⟩ := pm_if hf
          obtain ⟨v34, e35, hf⟩ := pm_bd hf
          refine pm_getR C dX10_alongMemory_117 flX10_21 rfl k33 e35 ?_
          refine pm_iload C dX10_alongMemory_120 rfl ?_
          refine pm_lload C dX10_alongMemory_122 rfl ?_
          refine pm_lload C dX10_alongMemory_124 rfl ?_
          refine pm_lload C dX10_alongMemory_126 rfl ?_
          obtain ⟨k36, hf⟩ := pm_if hf
          obtain ⟨v37, e38, hf⟩ := pm_bd hf
          refine pm_callV (as := [.int x10, .long x4, .long x6, .long x8]) (st := []) C X dX10_alongMemory_128 lnX10_310 myX6_copy viX6_copy ⟨by decide, by decide⟩ rfl rfl k36 (Nat.le_of_ble_eq_true rfl) (Nat.le_refl _) (Nat.le_refl _) (ctX6_copy e38 ?_)
          show pm_G g 131 [(0, .ref x0), (1, .ref x1), (2, .int x2), (3, .int x3), (4, .long x4), (6, .long x6), (8, .long x8), (10, .int x10), (11, .int x11)] [] v37 0 0
          cases hf
          exact pm_sub [0, 1, 2, 3, 4, 5, 6, 7] rfl (ih.2.2.1 x0 x1 x2 x3 x4 x6 x8 x10 v37 hi)
      · have hf := pm_it hf c31
        refine pm_aload_n C dX10_alongMemory_102 rfl rfl ?_
        refine pm_iconst (v := 5) C dX10_alongMemory_103 (by decide) ?_
        obtain ⟨k39, hf⟩ := pm_if hf
        refine pm_putI C dX10_alongMemory_104 flX10_263 rfl rfl k39 rfl rfl ?_
        refine pm_lconst (v := 0) C dX10_alongMemory_107 (by decide) ?_
        cases hf
        cases hi
        exact pm_lret C X dX10_alongMemory_108 rfl (Nat.le_refl _) (Nat.le_refl _) q
    refine ⟨fun x0 x1 x2 x3 x4 x6 x8 x10 h hf => ?_, ?_⟩
    · obtain ⟨y, hf, hi⟩ := pm_iter_s hf
      have hf : tX10_alongMemory_131 x0 x1 x2 x3 x4 x6 x8 x10 h = some y := hf
      unfold tX10_alongMemory_131 at hf
      refine pm_iload_n C dX10_alongMemory_131 rfl rfl ?_
      refine pm_sipush (v := 311) C dX10_alongMemory_132 (by decide) ?_
      refine pm_icmp_ne (tgt := 154) C dX10_alongMemory_135 (by decide) (fun c40 => ?_) (fun c40 => ?_)
      · have hf := pm_ie hf c40
        refine pm_iload_n C dX10_alongMemory_154 rfl rfl ?_
        refine pm_sipush (v := 308) C dX10_alongMemory_155 (by decide) ?_
        refine pm_icmp_ne (tgt := 255) C dX10_alongMemory_158 (by decide) (fun c41 => ?_) (fun c41 => ?_)
        · have hf := pm_ie hf c41
          refine pm_lconst (v := 0) C dX10_alongMemory_255 (by decide) ?_
          cases hf
          cases hi
          exact pm_lret C X dX10_alongMemory_256 rfl (Nat.le_refl _) (Nat.le_refl _) q
        · have hf := pm_it hf c41
          refine pm_aload_n C dX10_alongMemory_161 rfl rfl ?_
          obtain ⟨k42, hf⟩ := pm_if hf
          obtain ⟨v43, e44, hf⟩ := pm_bd hf
          refine pm_getR C dX10_alongMemory_162 flX10_222 rfl k42 e44 ?_
          obtain ⟨k45, hf⟩ := pm_if hf
          obtain ⟨v46, e47, hf⟩ := pm_bd hf
          refine pm_getR C dX10_alongMemory_165 flX10_318 rfl k45 e47 ?_
          refine pm_astore (lv' := [(12, .ref v46), (0, .ref x0), (1, .ref x1), (2, .int x2), (3, .int x3), (4, .long x4), (6, .long x6), (8, .long x8), (10, .int x10)]) C dX10_alongMemory_168 (pm_nl X (by decide)) rfl ?_
          refine pm_aload_n C dX10_alongMemory_170 rfl rfl ?_
          refine pm_getR C dX10_alongMemory_171 flX10_222 rfl k42 e44 ?_
          obtain ⟨v48, e49, hf⟩ := pm_bd hf
          refine pm_getR C dX10_alongMemory_174 flX10_219 rfl k45 e49 ?_
          refine pm_iload_n C dX10_alongMemory_177 rfl rfl ?_
          refine pm_bipush (v := 7) C dX10_alongMemory_178 (by decide) ?_
          refine pm_imul C dX10_alongMemory_180 ?_
          refine pm_iconst (v := 3) C dX10_alongMemory_181 (by decide) ?_
          refine pm_iadd C dX10_alongMemory_182 ?_
          obtain ⟨v50, e51, hf⟩ := pm_bd hf
          refine pm_callS (as := [.ref v48, .int ((x3 * 7) + 3)]) (st := []) C X dX10_alongMemory_183 lnX10_104 myX12_item stX12_item ⟨by decide, by decide⟩ rfl rfl (Nat.le_of_ble_eq_true rfl) (Nat.le_refl _) (Nat.le_refl _) (ctX12_item e51 ?_)
          show pm_G g 186 [(12, .ref v46), (0, .ref x0), (1, .ref x1), (2, .int x2), (3, .int x3), (4, .long x4), (6, .long x6), (8, .long x8), (10, .int x10)] [.int v50] h 0 0
          refine pm_i2l C dX10_alongMemory_186 ?_
          refine pm_lload C dX10_alongMemory_187 rfl ?_
          refine pm_ladd C dX10_alongMemory_189 ?_
          obtain ⟨y52, e53, hf⟩ := pm_lt hf
          refine pm_topL e53 ?_
          refine pm_lstore (lv' := [(13, .long y52), (12, .ref v46), (0, .ref x0), (1, .ref x1), (2, .int x2), (3, .int x3), (4, .long x4), (6, .long x6), (8, .long x8), (10, .int x10)]) C dX10_alongMemory_190 (pm_nl X (by decide)) rfl ?_
          refine pm_lconst (v := 0) C dX10_alongMemory_192 (by decide) ?_
          refine pm_lstore (lv' := [(15, .long 0), (13, .long y52), (12, .ref v46), (0, .ref x0), (1, .ref x1), (2, .int x2), (3, .int x3), (4, .long x4), (6, .long x6), (8, .long x8), (10, .int x10)]) C dX10_alongMemory_193 (pm_nl X (by decide)) rfl ?_
          cases hf
          exact pm_sub [3, 7, 9, 10, 2, 1, 0] rfl (ih.2.2.2 x0 x4 x8 x10 v46 y52 0 h hi)
      · have hf := pm_it hf c40
        refine pm_aload_n C dX10_alongMemory_138 rfl rfl ?_
        obtain ⟨k54, hf⟩ := pm_if hf
        obtain ⟨v55, e56, hf⟩ := pm_bd hf
        refine pm_getR C dX10_alongMemory_139 flX10_21 rfl k54 e56 ?_
        refine pm_iload C dX10_alongMemory_142 rfl ?_
        refine pm_lload C dX10_alongMemory_144 rfl ?_
        refine pm_lload C dX10_alongMemory_146 rfl ?_
        refine pm_l2i C dX10_alongMemory_148 ?_
        refine pm_lload C dX10_alongMemory_149 rfl ?_
        obtain ⟨k57, hf⟩ := pm_if hf
        obtain ⟨v58, e59, hf⟩ := pm_bd hf
        refine pm_callV (as := [.int x10, .long x4, .int x6.toInt32, .long x8]) (st := []) C X dX10_alongMemory_151 lnX10_314 myX6_fill viX6_fill ⟨by decide, by decide⟩ rfl rfl k57 (Nat.le_of_ble_eq_true rfl) (Nat.le_refl _) (Nat.le_refl _) (ctX6_fill e59 ?_)
        show pm_G g 154 [(0, .ref x0), (1, .ref x1), (2, .int x2), (3, .int x3), (4, .long x4), (6, .long x6), (8, .long x8), (10, .int x10)] [] v58 0 0
        refine pm_iload_n C dX10_alongMemory_154 rfl rfl ?_
        refine pm_sipush (v := 308) C dX10_alongMemory_155 (by decide) ?_
        refine pm_icmp_ne (tgt := 255) C dX10_alongMemory_158 (by decide) (fun c60 => ?_) (fun c60 => ?_)
        · have hf := pm_ie hf c60
          refine pm_lconst (v := 0) C dX10_alongMemory_255 (by decide) ?_
          cases hf
          cases hi
          exact pm_lret C X dX10_alongMemory_256 rfl (Nat.le_refl _) (Nat.le_refl _) q
        · have hf := pm_it hf c60
          refine pm_aload_n C dX10_alongMemory_161 rfl rfl ?_
          obtain ⟨k61, hf⟩ := pm_if hf
          obtain ⟨v62, e63, hf⟩ := pm_bd hf
          refine pm_getR C dX10_alongMemory_162 flX10_222 rfl k61 e63 ?_
          obtain ⟨k64, hf⟩ := pm_if hf
          obtain ⟨v65, e66, hf⟩ := pm_bd hf
          refine pm_getR C dX10_alongMemory_165 flX10_318 rfl k64 e66 ?_
          refine pm_astore (lv' := [(12, .ref v65), (0, .ref x0), (1, .ref x1), (2, .int x2), (3, .int x3), (4, .long x4), (6, .long x6), (8, .long x8), (10, .int x10)]) C dX10_alongMemory_168 (pm_nl X (by decide)) rfl ?_
          refine pm_aload_n C dX10_alongMemory_170 rfl rfl ?_
          refine pm_getR C dX10_alongMemory_171 flX10_222 rfl k61 e63 ?_
          obtain ⟨v67, e68, hf⟩ := pm_bd hf
          refine pm_getR C dX10_alongMemory_174 flX10_219 rfl k64 e68 ?_
          refine pm_iload_n C dX10_alongMemory_177 rfl rfl ?_
          refine pm_bipush (v := 7) C dX10_alongMemory_178 (by decide) ?_
          refine pm_imul C dX10_alongMemory_180 ?_
          refine pm_iconst (v := 3) C dX10_alongMemory_181 (by decide) ?_
          refine pm_iadd C dX10_alongMemory_182 ?_
          obtain ⟨v69, e70, hf⟩ := pm_bd hf
          refine pm_callS (as := [.ref v67, .int ((x3 * 7) + 3)]) (st := []) C X dX10_alongMemory_183 lnX10_104 myX12_item stX12_item ⟨by decide, by decide⟩ rfl rfl (Nat.le_of_ble_eq_true rfl) (Nat.le_refl _) (Nat.le_refl _) (ctX12_item e70 ?_)
          show pm_G g 186 [(12, .ref v65), (0, .ref x0), (1, .ref x1), (2, .int x2), (3, .int x3), (4, .long x4), (6, .long x6), (8, .long x8), (10, .int x10)] [.int v69] v58 0 0
          refine pm_i2l C dX10_alongMemory_186 ?_
          refine pm_lload C dX10_alongMemory_187 rfl ?_
          refine pm_ladd C dX10_alongMemory_189 ?_
          obtain ⟨y71, e72, hf⟩ := pm_lt hf
          refine pm_topL e72 ?_
          refine pm_lstore (lv' := [(13, .long y71), (12, .ref v65), (0, .ref x0), (1, .ref x1), (2, .int x2), (3, .int x3), (4, .long x4), (6, .long x6), (8, .long x8), (10, .int x10)]) C dX10_alongMemory_190 (pm_nl X (by decide)) rfl ?_
          refine pm_lconst (v := 0) C dX10_alongMemory_192 (by decide) ?_
          refine pm_lstore (lv' := [(15, .long 0), (13, .long y71), (12, .ref v65), (0, .ref x0), (1, .ref x1), (2, .int x2), (3, .int x3), (4, .long x4), (6, .long x6), (8, .long x8), (10, .int x10)]) C dX10_alongMemory_193 (pm_nl X (by decide)) rfl ?_
          cases hf
          exact pm_sub [3, 7, 9, 10, 2, 1, 0] rfl (ih.2.2.2 x0 x4 x8 x10 v65 y71 0 v58 hi)
    refine fun x0 x4 x8 x10 x12 x13 x15 h hf => ?_
    obtain ⟨y, hf, hi⟩ := pm_iter_s hf
    have hf : tX10_alongMemory_195 x0 x4 x8 x10 x12 x13 x15 h = some y := hf
    unfold tX10_alongMemory_195 at hf
    refine pm_lload C dX10_alongMemory_195 rfl ?_
    refine pm_lload C dX10_alongMemory_197 rfl ?_
    refine pm_lcmp C dX10_alongMemory_199 ?_
    refine pm_if_ge (tgt := 255) C dX10_alongMemory_200 (by decide) (fun c73 => ?_) (fun c73 => ?_)
    · have hf := pm_it hf ((pm_lg_ge _ _).mp c73)
      refine pm_lconst (v := 0) C dX10_alongMemory_255 (by decide) ?_
      cases hf
      cases hi
      exact pm_lret C X dX10_alongMemory_256 rfl (Nat.le_refl _) (Nat.le_refl _) q
    · have hf := pm_ie hf ((fun z => c73 ((pm_lg_ge _ _).mpr z)))
      refine pm_lload C dX10_alongMemory_203 rfl ?_
      refine pm_lconst (v := 0) C dX10_alongMemory_205 (by decide) ?_
      refine pm_lcmp C dX10_alongMemory_206 ?_
      refine pm_if_lt (tgt := 255) C dX10_alongMemory_207 (by decide) (fun c74 => ?_) (fun c74 => ?_)
      · have hf := pm_it hf ((pm_lg_lt _ _).mp c74)
        refine pm_lconst (v := 0) C dX10_alongMemory_255 (by decide) ?_
        cases hf
        cases hi
        exact pm_lret C X dX10_alongMemory_256 rfl (Nat.le_refl _) (Nat.le_refl _) q
      · have hf := pm_ie hf ((fun z => c74 ((pm_lg_lt _ _).mpr z)))
        refine pm_lload C dX10_alongMemory_210 rfl ?_
        refine pm_lload C dX10_alongMemory_212 rfl ?_
        refine pm_ladd C dX10_alongMemory_214 ?_
        refine pm_aload C dX10_alongMemory_215 rfl ?_
        obtain ⟨k75, hf⟩ := pm_if hf
        refine pm_alen (t := 1) C dX10_alongMemory_217 (by decide) k75 rfl ?_
        refine pm_i2l C dX10_alongMemory_218 ?_
        refine pm_lcmp C dX10_alongMemory_219 ?_
        refine pm_if_ge (tgt := 255) C dX10_alongMemory_220 (by decide) (fun c76 => ?_) (fun c76 => ?_)
        · have hf := pm_it hf ((pm_lg_ge _ _).mp c76)
          refine pm_lconst (v := 0) C dX10_alongMemory_255 (by decide) ?_
          cases hf
          cases hi
          exact pm_lret C X dX10_alongMemory_256 rfl (Nat.le_refl _) (Nat.le_refl _) q
        · have hf := pm_ie hf ((fun z => c76 ((pm_lg_ge _ _).mpr z)))
          refine pm_aload_n C dX10_alongMemory_223 rfl rfl ?_
          obtain ⟨k77, hf⟩ := pm_if hf
          obtain ⟨v78, e79, hf⟩ := pm_bd hf
          refine pm_getR C dX10_alongMemory_224 flX10_21 rfl k77 e79 ?_
          refine pm_iload C dX10_alongMemory_227 rfl ?_
          refine pm_lload C dX10_alongMemory_229 rfl ?_
          refine pm_lload C dX10_alongMemory_231 rfl ?_
          refine pm_ladd C dX10_alongMemory_233 ?_
          refine pm_aload C dX10_alongMemory_234 rfl ?_
          refine pm_lload C dX10_alongMemory_236 rfl ?_
          refine pm_lload C dX10_alongMemory_238 rfl ?_
          refine pm_ladd C dX10_alongMemory_240 ?_
          refine pm_l2i C dX10_alongMemory_241 ?_
          obtain ⟨y80, e81, hf⟩ := pm_lt hf
          refine pm_topI e81 ?_
          obtain ⟨u82, hf⟩ := pm_if hf
          refine pm_bald C dX10_alongMemory_242 k75 u82 rfl ?_
          obtain ⟨k83, hf⟩ := pm_if hf
          obtain ⟨v84, e85, hf⟩ := pm_bd hf
          refine pm_callV (as := [.int x10, .long (x4 + x15), .int (pm_I h x12 y80.toNatClampNeg)]) (st := []) C X dX10_alongMemory_243 lnX10_322 myX6_setByte viX6_setByte ⟨by decide, by decide⟩ rfl rfl k83 (Nat.le_of_ble_eq_true rfl) (Nat.le_refl _) (Nat.le_refl _) (ctX6_setByte e85 ?_)
          show pm_G g 246 [(0, .ref x0), (4, .long x4), (8, .long x8), (10, .int x10), (12, .ref x12), (13, .long x13), (15, .long x15)] [] v84 0 0
          refine pm_lload C dX10_alongMemory_246 rfl ?_
          refine pm_lconst (v := 1) C dX10_alongMemory_248 (by decide) ?_
          refine pm_ladd C dX10_alongMemory_249 ?_
          obtain ⟨y86, e87, hf⟩ := pm_lt hf
          refine pm_topL e87 ?_
          refine pm_lstore (lv' := [(15, .long y86), (0, .ref x0), (4, .long x4), (8, .long x8), (10, .int x10), (12, .ref x12), (13, .long x13)]) C dX10_alongMemory_250 (pm_nl X (by decide)) rfl ?_
          refine pm_goto (tgt := 195) C dX10_alongMemory_252 (by decide) ?_
          cases hf
          exact pm_sub [1, 2, 3, 4, 5, 6, 0] rfl (ih.2.2.2 x0 x4 x8 x10 x12 x13 y86 v84 hi)
set_option maxHeartbeats 4000000 in
set_option maxRecDepth 100000 in
theorem ctX10_alongMemory {l : Launch} {G : pm_Gl} {h : pm_H} {a0 : Nat} {p1 : Nat} {p2 : Int32} {p3 : Int32} {p4 : Int64} {p5 : Int64} {p6 : Int64} {r : (Int64 × pm_H)} {Qr : Option Value → pm_H → Prop} (hf : fX10_alongMemory h a0 p1 p2 p3 p4 p5 p6 = some r) (q : Qr (some (.long r.1)) r.2) : pm_Ct l G mX10_alongMemory [.ref a0, .ref p1, .int p2, .int p3, .long p4, .long p5, .long p6] h 0 0 Qr := by
  refine pm_body pnX10 (Nat.le_of_ble_eq_true rfl) (fun g C X => ?_)
  have C : pm_C g cX10_alongMemory RX10 := C
  show pm_G g 0 [(0, .ref a0), (1, .ref p1), (2, .int p2), (3, .int p3), (4, .long p4), (6, .long p5), (8, .long p6)] [] h 0 0
  unfold fX10_alongMemory at hf
  refine pm_aload_n C dX10_alongMemory_0 rfl rfl ?_
  obtain ⟨k1, hf⟩ := pm_if hf
  obtain ⟨v2, e3, hf⟩ := pm_bd hf
  refine pm_getR C dX10_alongMemory_1 flX10_197 rfl k1 e3 ?_
  refine pm_iconst (v := 0) C dX10_alongMemory_4 (by decide) ?_
  obtain ⟨v4, e5, hf⟩ := pm_bd hf
  refine pm_callS (as := [.ref v2, .int 0]) (st := []) C X dX10_alongMemory_5 lnX10_104 myX12_item stX12_item ⟨by decide, by decide⟩ rfl rfl (Nat.le_of_ble_eq_true rfl) (Nat.le_refl _) (Nat.le_refl _) (ctX12_item e5 ?_)
  show pm_G g 8 [(0, .ref a0), (1, .ref p1), (2, .int p2), (3, .int p3), (4, .long p4), (6, .long p5), (8, .long p6)] [.int v4] h 0 0
  refine pm_istore (lv' := [(10, .int v4), (0, .ref a0), (1, .ref p1), (2, .int p2), (3, .int p3), (4, .long p4), (6, .long p5), (8, .long p6)]) C dX10_alongMemory_8 (pm_nl X (by decide)) rfl ?_
  refine pm_iload_n C dX10_alongMemory_10 rfl rfl ?_
  refine pm_sipush (v := 309) C dX10_alongMemory_11 (by decide) ?_
  refine pm_icmp_ne (tgt := 28) C dX10_alongMemory_14 (by decide) (fun c6 => ?_) (fun c6 => ?_)
  · have hf := pm_ie hf c6
    refine pm_aload_n C dX10_alongMemory_28 rfl rfl ?_
    obtain ⟨k7, hf⟩ := pm_if hf
    obtain ⟨v8, e9, hf⟩ := pm_bd hf
    refine pm_getR C dX10_alongMemory_29 flX10_21 rfl k7 e9 ?_
    refine pm_iload C dX10_alongMemory_32 rfl ?_
    refine pm_lload C dX10_alongMemory_34 rfl ?_
    refine pm_lload C dX10_alongMemory_36 rfl ?_
    obtain ⟨k10, hf⟩ := pm_if hf
    obtain ⟨v11, e12, hf⟩ := pm_bd hf
    refine pm_callV (as := [.int v4, .long p4, .long p6]) (st := []) C X dX10_alongMemory_38 lnX10_298 myX6_reaches viX6_reaches ⟨by decide, by decide⟩ rfl rfl k10 (Nat.le_of_ble_eq_true rfl) (Nat.le_refl _) (Nat.le_refl _) (ctX6_reaches e12 ?_)
    show pm_G g 41 [(10, .int v4), (0, .ref a0), (1, .ref p1), (2, .int p2), (3, .int p3), (4, .long p4), (6, .long p5), (8, .long p6)] [.int v11] h 0 0
    refine pm_istore (lv' := [(11, .int v11), (10, .int v4), (0, .ref a0), (1, .ref p1), (2, .int p2), (3, .int p3), (4, .long p4), (6, .long p5), (8, .long p6)]) C dX10_alongMemory_41 (pm_nl X (by decide)) rfl ?_
    refine pm_iload_n C dX10_alongMemory_43 rfl rfl ?_
    refine pm_sipush (v := 308) C dX10_alongMemory_44 (by decide) ?_
    refine pm_icmp_ne (tgt := 71) C dX10_alongMemory_47 (by decide) (fun c13 => ?_) (fun c13 => ?_)
    · have hf := pm_ie hf c13
      obtain ⟨n, hn⟩ := pm_lim_iter hf
      exact pm_sub [2, 3, 4, 5, 6, 7, 8, 1, 0] rfl ((lpX10_alongMemory C X q n).1 a0 p1 p2 p3 p4 p5 p6 v4 v11 h hn)
    · have hf := pm_it hf c13
      refine pm_lload C dX10_alongMemory_50 rfl ?_
      refine pm_lload C dX10_alongMemory_52 rfl ?_
      refine pm_ladd C dX10_alongMemory_54 ?_
      refine pm_aload_n C dX10_alongMemory_55 rfl rfl ?_
      obtain ⟨v14, e15, hf⟩ := pm_bd hf
      refine pm_getR C dX10_alongMemory_56 flX10_216 rfl k1 e15 ?_
      refine pm_iload_n C dX10_alongMemory_59 rfl rfl ?_
      obtain ⟨v16, e17, hf⟩ := pm_bd hf
      refine pm_callS (as := [.ref v14, .int p3]) (st := [.long (p5 + p6)]) C X dX10_alongMemory_60 lnX10_104 myX12_item stX12_item ⟨by decide, by decide⟩ rfl rfl (Nat.le_of_ble_eq_true rfl) (Nat.le_refl _) (Nat.le_refl _) (ctX12_item e17 ?_)
      show pm_G g 63 [(11, .int v11), (10, .int v4), (0, .ref a0), (1, .ref p1), (2, .int p2), (3, .int p3), (4, .long p4), (6, .long p5), (8, .long p6)] [.int v16, .long (p5 + p6)] h 0 0
      refine pm_i2l C dX10_alongMemory_63 ?_
      refine pm_lcmp C dX10_alongMemory_64 ?_
      refine pm_if_le (tgt := 71) C dX10_alongMemory_65 (by decide) (fun c18 => ?_) (fun c18 => ?_)
      · have hf := pm_it hf ((pm_lg_le _ _).mp c18)
        obtain ⟨n, hn⟩ := pm_lim_iter hf
        exact pm_sub [2, 3, 4, 5, 6, 7, 8, 1, 0] rfl ((lpX10_alongMemory C X q n).1 a0 p1 p2 p3 p4 p5 p6 v4 v11 h hn)
      · have hf := pm_ie hf ((fun z => c18 ((pm_lg_le _ _).mpr z)))
        refine pm_iconst (v := 0) C dX10_alongMemory_68 (by decide) ?_
        refine pm_istore (lv' := [(11, .int 0), (10, .int v4), (0, .ref a0), (1, .ref p1), (2, .int p2), (3, .int p3), (4, .long p4), (6, .long p5), (8, .long p6)]) C dX10_alongMemory_69 (pm_nl X (by decide)) rfl ?_
        obtain ⟨n, hn⟩ := pm_lim_iter hf
        exact pm_sub [2, 3, 4, 5, 6, 7, 8, 1, 0] rfl ((lpX10_alongMemory C X q n).1 a0 p1 p2 p3 p4 p5 p6 v4 0 h hn)
  · have hf := pm_it hf c6
    refine pm_aload_n C dX10_alongMemory_17 rfl rfl ?_
    obtain ⟨v19, e20, hf⟩ := pm_bd hf
    refine pm_getR C dX10_alongMemory_18 flX10_216 rfl k1 e20 ?_
    refine pm_iload_n C dX10_alongMemory_21 rfl rfl ?_
    refine pm_iconst (v := 0) C dX10_alongMemory_22 (by decide) ?_
    obtain ⟨v21, e22, hf⟩ := pm_bd hf
    refine pm_callS (as := [.ref v19, .int p3, .int 0]) (st := []) C X dX10_alongMemory_23 lnX10_184 myX12_setItem stX12_setItem ⟨by decide, by decide⟩ rfl rfl (Nat.le_of_ble_eq_true rfl) (Nat.le_refl _) (Nat.le_refl _) (ctX12_setItem e22 ?_)
    show pm_G g 26 [(10, .int v4), (0, .ref a0), (1, .ref p1), (2, .int p2), (3, .int p3), (4, .long p4), (6, .long p5), (8, .long p6)] [] v21 0 0
    refine pm_lconst (v := 0) C dX10_alongMemory_26 (by decide) ?_
    cases hf
    exact pm_lret C X dX10_alongMemory_27 rfl (Nat.le_refl _) (Nat.le_refl _) q
theorem dX11_fill_0 : decode cX11_fill 0 = .ok (.iload_n 1, 1) := by decide +kernel
theorem dX11_fill_1 : decode cX11_fill 1 = .ok (.ifCond .lt 29, 3) := by decide +kernel
theorem dX11_fill_4 : decode cX11_fill 4 = .ok (.iload_n 1, 1) := by decide +kernel
theorem dX11_fill_5 : decode cX11_fill 5 = .ok (.aload_n 0, 1) := by decide +kernel
theorem dX11_fill_6 : decode cX11_fill 6 = .ok (.getfield 26, 3) := by decide +kernel
theorem dX11_fill_9 : decode cX11_fill 9 = .ok (.arraylength, 1) := by decide +kernel
theorem dX11_fill_10 : decode cX11_fill 10 = .ok (.if_icmp .ge 20, 3) := by decide +kernel
theorem dX11_fill_13 : decode cX11_fill 13 = .ok (.lload_n 2, 1) := by decide +kernel
theorem dX11_fill_14 : decode cX11_fill 14 = .ok (.lconst 0, 1) := by decide +kernel
theorem dX11_fill_15 : decode cX11_fill 15 = .ok (.lcmp, 1) := by decide +kernel
theorem dX11_fill_16 : decode cX11_fill 16 = .ok (.ifCond .lt 14, 3) := by decide +kernel
theorem dX11_fill_19 : decode cX11_fill 19 = .ok (.lload 5, 2) := by decide +kernel
theorem dX11_fill_21 : decode cX11_fill 21 = .ok (.lconst 0, 1) := by decide +kernel
theorem dX11_fill_22 : decode cX11_fill 22 = .ok (.lcmp, 1) := by decide +kernel
theorem dX11_fill_23 : decode cX11_fill 23 = .ok (.ifCond .lt 7, 3) := by decide +kernel
theorem dX11_fill_26 : decode cX11_fill 26 = .ok (.iconst 1, 1) := by decide +kernel
theorem dX11_fill_27 : decode cX11_fill 27 = .ok (.goto 4, 3) := by decide +kernel
theorem dX11_fill_30 : decode cX11_fill 30 = .ok (.iconst 0, 1) := by decide +kernel
theorem dX11_fill_31 : decode cX11_fill 31 = .ok (.istore 7, 2) := by decide +kernel
theorem dX11_fill_33 : decode cX11_fill 33 = .ok (.iload 7, 2) := by decide +kernel
theorem dX11_fill_35 : decode cX11_fill 35 = .ok (.ifCond .eq 19, 3) := by decide +kernel
theorem dX11_fill_38 : decode cX11_fill 38 = .ok (.lload_n 2, 1) := by decide +kernel
theorem dX11_fill_39 : decode cX11_fill 39 = .ok (.lload 5, 2) := by decide +kernel
theorem dX11_fill_41 : decode cX11_fill 41 = .ok (.ladd, 1) := by decide +kernel
theorem dX11_fill_42 : decode cX11_fill 42 = .ok (.aload_n 0, 1) := by decide +kernel
theorem dX11_fill_43 : decode cX11_fill 43 = .ok (.getfield 26, 3) := by decide +kernel
theorem dX11_fill_46 : decode cX11_fill 46 = .ok (.iload_n 1, 1) := by decide +kernel
theorem dX11_fill_47 : decode cX11_fill 47 = .ok (.aaload, 1) := by decide +kernel
theorem dX11_fill_48 : decode cX11_fill 48 = .ok (.arraylength, 1) := by decide +kernel
theorem dX11_fill_49 : decode cX11_fill 49 = .ok (.i2l, 1) := by decide +kernel
theorem dX11_fill_50 : decode cX11_fill 50 = .ok (.lcmp, 1) := by decide +kernel
theorem dX11_fill_51 : decode cX11_fill 51 = .ok (.ifCond .le 4, 3) := by decide +kernel
theorem dX11_fill_54 : decode cX11_fill 54 = .ok (.return_, 1) := by decide +kernel
theorem dX11_fill_55 : decode cX11_fill 55 = .ok (.aload_n 0, 1) := by decide +kernel
theorem dX11_fill_56 : decode cX11_fill 56 = .ok (.getfield 26, 3) := by decide +kernel
theorem dX11_fill_59 : decode cX11_fill 59 = .ok (.iload_n 1, 1) := by decide +kernel
theorem dX11_fill_60 : decode cX11_fill 60 = .ok (.aaload, 1) := by decide +kernel
theorem dX11_fill_61 : decode cX11_fill 61 = .ok (.lload_n 2, 1) := by decide +kernel
theorem dX11_fill_62 : decode cX11_fill 62 = .ok (.l2i, 1) := by decide +kernel
theorem dX11_fill_63 : decode cX11_fill 63 = .ok (.lload_n 2, 1) := by decide +kernel
theorem dX11_fill_64 : decode cX11_fill 64 = .ok (.lload 5, 2) := by decide +kernel
theorem dX11_fill_66 : decode cX11_fill 66 = .ok (.ladd, 1) := by decide +kernel
theorem dX11_fill_67 : decode cX11_fill 67 = .ok (.l2i, 1) := by decide +kernel
theorem dX11_fill_68 : decode cX11_fill 68 = .ok (.iload 4, 2) := by decide +kernel
theorem dX11_fill_70 : decode cX11_fill 70 = .ok (.invokestatic 73, 3) := by decide +kernel
theorem dX11_fill_73 : decode cX11_fill 73 = .ok (.return_, 1) := by decide +kernel
noncomputable def fX11_fill_b31 (h : pm_H) (x0 : Nat) (x1 : Int32) (x2 : Int64) (x4 : Int32) (x5 : Int64) (s0 : Int32) : Option pm_H := if s0 = 0 then (some h) else (if pm_kd h x0 = 11 then (pm_R h x0 5).bind fun v11 => if pm_kd h v11 = 36 then if pm_in x1 (pm_ln h v11) then (pm_R h v11 x1.toNatClampNeg).bind fun v15 => if pm_kd h v15 = 34 then if (x2 + x5) ≤ ((Int32.ofNat (pm_ln h v15)).toInt64) then (if pm_in x1 (pm_ln h v11) then (pm_R h v11 x1.toNatClampNeg).bind fun v20 => (fJ7_fill_fda19 h v20 x2.toInt32 ((x2 + x5).toInt32) x4).bind fun v22 => some v22 else none) else (some h) else none else none else none else none)
noncomputable def fX11_fill_b30 (h : pm_H) (x0 : Nat) (x1 : Int32) (x2 : Int64) (x4 : Int32) (x5 : Int64) : Option pm_H := fX11_fill_b31 h x0 x1 x2 x4 x5 0
noncomputable def fX11_fill (h : pm_H) (a0 : Nat) (p1 : Int32) (p2 : Int64) (p3 : Int32) (p4 : Int64) : Option pm_H := if p1 < 0 then (fX11_fill_b30 h a0 p1 p2 p3 p4) else (if pm_kd h a0 = 11 then (pm_R h a0 5).bind fun v3 => if pm_kd h v3 = 36 then if (Int32.ofNat (pm_ln h v3)) ≤ p1 then (fX11_fill_b30 h a0 p1 p2 p3 p4) else (if p2 < 0 then (fX11_fill_b30 h a0 p1 p2 p3 p4) else (if p4 < 0 then (fX11_fill_b30 h a0 p1 p2 p3 p4) else (fX11_fill_b31 h a0 p1 p2 p3 p4 1))) else none else none)
set_option maxHeartbeats 4000000 in
set_option maxRecDepth 100000 in
theorem bX11_fill_31 {g : pm_Gm} {l : Launch} {G : pm_Gl} {Qr : Option Value → pm_H → Prop} (C : pm_C g cX11_fill RX11) (X : pm_X g l G mX11_fill 0 0 Qr) {h : pm_H} {x0 : Nat} {x1 : Int32} {x2 : Int64} {x4 : Int32} {x5 : Int64} {s0 : Int32} {r : pm_H} (hf : fX11_fill_b31 h x0 x1 x2 x4 x5 s0 = some r) (q : Qr none r) : pm_G g 31 [(0, .ref x0), (1, .int x1), (2, .long x2), (4, .int x4), (5, .long x5)] [.int s0] h 0 0 := by
  unfold fX11_fill_b31 at hf
  refine pm_istore (lv' := [(7, .int s0), (0, .ref x0), (1, .int x1), (2, .long x2), (4, .int x4), (5, .long x5)]) C dX11_fill_31 (pm_nl X (by decide)) rfl ?_
  refine pm_iload C dX11_fill_33 rfl ?_
  refine pm_if_eq (tgt := 54) C dX11_fill_35 (by decide) (fun c9 => ?_) (fun c9 => ?_)
  · have hf := pm_it hf c9
    cases hf
    exact pm_vret C X dX11_fill_54 rfl (Nat.le_refl _) (Nat.le_refl _) q
  · have hf := pm_ie hf c9
    refine pm_lload_n C dX11_fill_38 rfl rfl ?_
    refine pm_lload C dX11_fill_39 rfl ?_
    refine pm_ladd C dX11_fill_41 ?_
    refine pm_aload_n C dX11_fill_42 rfl rfl ?_
    obtain ⟨k10, hf⟩ := pm_if hf
    obtain ⟨v11, e12, hf⟩ := pm_bd hf
    refine pm_getR C dX11_fill_43 flX11_26 rfl k10 e12 ?_
    refine pm_iload_n C dX11_fill_46 rfl rfl ?_
    obtain ⟨k13, hf⟩ := pm_if hf
    obtain ⟨u14, hf⟩ := pm_if hf
    obtain ⟨v15, e16, hf⟩ := pm_bd hf
    refine pm_ald (t := 4) C dX11_fill_47 (by decide) rfl k13 u14 e16 ?_
    obtain ⟨k17, hf⟩ := pm_if hf
    refine pm_alen (t := 2) C dX11_fill_48 (by decide) k17 rfl ?_
    refine pm_i2l C dX11_fill_49 ?_
    refine pm_lcmp C dX11_fill_50 ?_
    refine pm_if_le (tgt := 55) C dX11_fill_51 (by decide) (fun c18 => ?_) (fun c18 => ?_)
    · have hf := pm_it hf ((pm_lg_le _ _).mp c18)
      refine pm_aload_n C dX11_fill_55 rfl rfl ?_
      refine pm_getR C dX11_fill_56 flX11_26 rfl k10 e12 ?_
      refine pm_iload_n C dX11_fill_59 rfl rfl ?_
      obtain ⟨u19, hf⟩ := pm_if hf
      obtain ⟨v20, e21, hf⟩ := pm_bd hf
      refine pm_ald (t := 4) C dX11_fill_60 (by decide) rfl k13 u19 e21 ?_
      refine pm_lload_n C dX11_fill_61 rfl rfl ?_
      refine pm_l2i C dX11_fill_62 ?_
      refine pm_lload_n C dX11_fill_63 rfl rfl ?_
      refine pm_lload C dX11_fill_64 rfl ?_
      refine pm_ladd C dX11_fill_66 ?_
      refine pm_l2i C dX11_fill_67 ?_
      refine pm_iload C dX11_fill_68 rfl ?_
      obtain ⟨v22, e23, hf⟩ := pm_bd hf
      refine pm_callS (as := [.ref v20, .int x2.toInt32, .int ((x2 + x5).toInt32), .int x4]) (st := []) C X dX11_fill_70 lnX11_73 myJ7_fill_fda19 stJ7_fill_fda19 ⟨by decide, by decide⟩ rfl rfl (Nat.le_of_ble_eq_true rfl) (Nat.le_refl _) (Nat.le_refl _) (ctJ7_fill_fda19 e23 ?_)
      show pm_G g 73 [(7, .int s0), (0, .ref x0), (1, .int x1), (2, .long x2), (4, .int x4), (5, .long x5)] [] v22 0 0
      cases hf
      exact pm_vret C X dX11_fill_73 rfl (Nat.le_refl _) (Nat.le_refl _) q
    · have hf := pm_ie hf ((fun z => c18 ((pm_lg_le _ _).mpr z)))
      cases hf
      exact pm_vret C X dX11_fill_54 rfl (Nat.le_refl _) (Nat.le_refl _) q
set_option maxHeartbeats 4000000 in
set_option maxRecDepth 100000 in
theorem bX11_fill_30 {g : pm_Gm} {l : Launch} {G : pm_Gl} {Qr : Option Value → pm_H → Prop} (C : pm_C g cX11_fill RX11) (X : pm_X g l G mX11_fill 0 0 Qr) {h : pm_H} {x0 : Nat} {x1 : Int32} {x2 : Int64} {x4 : Int32} {x5 : Int64} {r : pm_H} (hf : fX11_fill_b30 h x0 x1 x2 x4 x5 = some r) (q : Qr none r) : pm_G g 30 [(0, .ref x0), (1, .int x1), (2, .long x2), (4, .int x4), (5, .long x5)] [] h 0 0 := by
  unfold fX11_fill_b30 at hf
  refine pm_iconst (v := 0) C dX11_fill_30 (by decide) ?_
  exact pm_sub [0, 1, 2, 3, 4] rfl (bX11_fill_31 C X hf q)
set_option maxHeartbeats 4000000 in
set_option maxRecDepth 100000 in
theorem ctX11_fill {l : Launch} {G : pm_Gl} {h : pm_H} {a0 : Nat} {p1 : Int32} {p2 : Int64} {p3 : Int32} {p4 : Int64} {r : pm_H} {Qr : Option Value → pm_H → Prop} (hf : fX11_fill h a0 p1 p2 p3 p4 = some r) (q : Qr none r) : pm_Ct l G mX11_fill [.ref a0, .int p1, .long p2, .int p3, .long p4] h 0 0 Qr := by
  refine pm_body pnX11 (Nat.le_of_ble_eq_true rfl) (fun g C X => ?_)
  have C : pm_C g cX11_fill RX11 := C
  show pm_G g 0 [(0, .ref a0), (1, .int p1), (2, .long p2), (4, .int p3), (5, .long p4)] [] h 0 0
  unfold fX11_fill at hf
  refine pm_iload_n C dX11_fill_0 rfl rfl ?_
  refine pm_if_lt (tgt := 30) C dX11_fill_1 (by decide) (fun c1 => ?_) (fun c1 => ?_)
  · have hf := pm_it hf c1
    exact pm_sub [0, 1, 2, 3, 4] rfl (bX11_fill_30 C X hf q)
  · have hf := pm_ie hf c1
    refine pm_iload_n C dX11_fill_4 rfl rfl ?_
    refine pm_aload_n C dX11_fill_5 rfl rfl ?_
    obtain ⟨k2, hf⟩ := pm_if hf
    obtain ⟨v3, e4, hf⟩ := pm_bd hf
    refine pm_getR C dX11_fill_6 flX11_26 rfl k2 e4 ?_
    obtain ⟨k5, hf⟩ := pm_if hf
    refine pm_alen (t := 4) C dX11_fill_9 (by decide) k5 rfl ?_
    refine pm_icmp_ge (tgt := 30) C dX11_fill_10 (by decide) (fun c6 => ?_) (fun c6 => ?_)
    · have hf := pm_it hf c6
      exact pm_sub [0, 1, 2, 3, 4] rfl (bX11_fill_30 C X hf q)
    · have hf := pm_ie hf c6
      refine pm_lload_n C dX11_fill_13 rfl rfl ?_
      refine pm_lconst (v := 0) C dX11_fill_14 (by decide) ?_
      refine pm_lcmp C dX11_fill_15 ?_
      refine pm_if_lt (tgt := 30) C dX11_fill_16 (by decide) (fun c7 => ?_) (fun c7 => ?_)
      · have hf := pm_it hf ((pm_lg_lt _ _).mp c7)
        exact pm_sub [0, 1, 2, 3, 4] rfl (bX11_fill_30 C X hf q)
      · have hf := pm_ie hf ((fun z => c7 ((pm_lg_lt _ _).mpr z)))
        refine pm_lload C dX11_fill_19 rfl ?_
        refine pm_lconst (v := 0) C dX11_fill_21 (by decide) ?_
        refine pm_lcmp C dX11_fill_22 ?_
        refine pm_if_lt (tgt := 30) C dX11_fill_23 (by decide) (fun c8 => ?_) (fun c8 => ?_)
        · have hf := pm_it hf ((pm_lg_lt _ _).mp c8)
          exact pm_sub [0, 1, 2, 3, 4] rfl (bX11_fill_30 C X hf q)
        · have hf := pm_ie hf ((fun z => c8 ((pm_lg_lt _ _).mpr z)))
          refine pm_iconst (v := 1) C dX11_fill_26 (by decide) ?_
          refine pm_goto (tgt := 31) C dX11_fill_27 (by decide) ?_
          exact pm_sub [0, 1, 2, 3, 4] rfl (bX11_fill_31 C X hf q)
theorem dX5_goFreely_0 : decode cX5_goFreely 0 = .ok (.aload_n 0, 1) := by decide +kernel
theorem dX5_goFreely_1 : decode cX5_goFreely 1 = .ok (.getfield 51, 3) := by decide +kernel
theorem dX5_goFreely_4 : decode cX5_goFreely 4 = .ok (.getfield 131, 3) := by decide +kernel
theorem dX5_goFreely_7 : decode cX5_goFreely 7 = .ok (.iload_n 1, 1) := by decide +kernel
theorem dX5_goFreely_8 : decode cX5_goFreely 8 = .ok (.iconst 0, 1) := by decide +kernel
theorem dX5_goFreely_9 : decode cX5_goFreely 9 = .ok (.iadd, 1) := by decide +kernel
theorem dX5_goFreely_10 : decode cX5_goFreely 10 = .ok (.invokestatic 88, 3) := by decide +kernel
theorem dX5_goFreely_13 : decode cX5_goFreely 13 = .ok (.istore_n 2, 1) := by decide +kernel
theorem dX5_goFreely_14 : decode cX5_goFreely 14 = .ok (.iload_n 2, 1) := by decide +kernel
theorem dX5_goFreely_15 : decode cX5_goFreely 15 = .ok (.bipush 11, 2) := by decide +kernel
theorem dX5_goFreely_17 : decode cX5_goFreely 17 = .ok (.if_icmp .ne 10, 3) := by decide +kernel
theorem dX5_goFreely_20 : decode cX5_goFreely 20 = .ok (.aload_n 0, 1) := by decide +kernel
theorem dX5_goFreely_21 : decode cX5_goFreely 21 = .ok (.invokevirtual 164, 3) := by decide +kernel
theorem dX5_goFreely_24 : decode cX5_goFreely 24 = .ok (.goto 86, 3) := by decide +kernel
theorem dX5_goFreely_27 : decode cX5_goFreely 27 = .ok (.iload_n 2, 1) := by decide +kernel
theorem dX5_goFreely_28 : decode cX5_goFreely 28 = .ok (.iconst 5, 1) := by decide +kernel
theorem dX5_goFreely_29 : decode cX5_goFreely 29 = .ok (.if_icmp .ne 27, 3) := by decide +kernel
theorem dX5_goFreely_32 : decode cX5_goFreely 32 = .ok (.aload_n 0, 1) := by decide +kernel
theorem dX5_goFreely_33 : decode cX5_goFreely 33 = .ok (.getfield 51, 3) := by decide +kernel
theorem dX5_goFreely_36 : decode cX5_goFreely 36 = .ok (.aload_n 0, 1) := by decide +kernel
theorem dX5_goFreely_37 : decode cX5_goFreely 37 = .ok (.getfield 51, 3) := by decide +kernel
theorem dX5_goFreely_40 : decode cX5_goFreely 40 = .ok (.getfield 131, 3) := by decide +kernel
theorem dX5_goFreely_43 : decode cX5_goFreely 43 = .ok (.iload_n 1, 1) := by decide +kernel
theorem dX5_goFreely_44 : decode cX5_goFreely 44 = .ok (.bipush 6, 2) := by decide +kernel
theorem dX5_goFreely_46 : decode cX5_goFreely 46 = .ok (.iadd, 1) := by decide +kernel
theorem dX5_goFreely_47 : decode cX5_goFreely 47 = .ok (.invokestatic 88, 3) := by decide +kernel
theorem dX5_goFreely_50 : decode cX5_goFreely 50 = .ok (.putfield 128, 3) := by decide +kernel
theorem dX5_goFreely_53 : decode cX5_goFreely 53 = .ok (.goto 57, 3) := by decide +kernel
theorem dX5_goFreely_56 : decode cX5_goFreely 56 = .ok (.iload_n 2, 1) := by decide +kernel
theorem dX5_goFreely_57 : decode cX5_goFreely 57 = .ok (.sipush 500, 3) := by decide +kernel
theorem dX5_goFreely_60 : decode cX5_goFreely 60 = .ok (.if_icmp .ne 50, 3) := by decide +kernel
theorem dX5_goFreely_63 : decode cX5_goFreely 63 = .ok (.aload_n 0, 1) := by decide +kernel
theorem dX5_goFreely_64 : decode cX5_goFreely 64 = .ok (.getfield 51, 3) := by decide +kernel
theorem dX5_goFreely_67 : decode cX5_goFreely 67 = .ok (.getfield 198, 3) := by decide +kernel
theorem dX5_goFreely_70 : decode cX5_goFreely 70 = .ok (.aload_n 0, 1) := by decide +kernel
theorem dX5_goFreely_71 : decode cX5_goFreely 71 = .ok (.getfield 51, 3) := by decide +kernel
theorem dX5_goFreely_74 : decode cX5_goFreely 74 = .ok (.getfield 131, 3) := by decide +kernel
theorem dX5_goFreely_77 : decode cX5_goFreely 77 = .ok (.iload_n 1, 1) := by decide +kernel
theorem dX5_goFreely_78 : decode cX5_goFreely 78 = .ok (.iconst 2, 1) := by decide +kernel
theorem dX5_goFreely_79 : decode cX5_goFreely 79 = .ok (.iadd, 1) := by decide +kernel
theorem dX5_goFreely_80 : decode cX5_goFreely 80 = .ok (.invokestatic 88, 3) := by decide +kernel
theorem dX5_goFreely_83 : decode cX5_goFreely 83 = .ok (.iadd, 1) := by decide +kernel
theorem dX5_goFreely_84 : decode cX5_goFreely 84 = .ok (.istore_n 3, 1) := by decide +kernel
theorem dX5_goFreely_85 : decode cX5_goFreely 85 = .ok (.aload_n 0, 1) := by decide +kernel
theorem dX5_goFreely_86 : decode cX5_goFreely 86 = .ok (.getfield 15, 3) := by decide +kernel
theorem dX5_goFreely_89 : decode cX5_goFreely 89 = .ok (.iload_n 3, 1) := by decide +kernel
theorem dX5_goFreely_90 : decode cX5_goFreely 90 = .ok (.aload_n 0, 1) := by decide +kernel
theorem dX5_goFreely_91 : decode cX5_goFreely 91 = .ok (.aload_n 0, 1) := by decide +kernel
theorem dX5_goFreely_92 : decode cX5_goFreely 92 = .ok (.getfield 51, 3) := by decide +kernel
theorem dX5_goFreely_95 : decode cX5_goFreely 95 = .ok (.getfield 131, 3) := by decide +kernel
theorem dX5_goFreely_98 : decode cX5_goFreely 98 = .ok (.iload_n 1, 1) := by decide +kernel
theorem dX5_goFreely_99 : decode cX5_goFreely 99 = .ok (.iconst 3, 1) := by decide +kernel
theorem dX5_goFreely_100 : decode cX5_goFreely 100 = .ok (.iadd, 1) := by decide +kernel
theorem dX5_goFreely_101 : decode cX5_goFreely 101 = .ok (.invokestatic 88, 3) := by decide +kernel
theorem dX5_goFreely_104 : decode cX5_goFreely 104 = .ok (.invokevirtual 280, 3) := by decide +kernel
theorem dX5_goFreely_107 : decode cX5_goFreely 107 = .ok (.invokestatic 99, 3) := by decide +kernel
theorem dX5_goFreely_110 : decode cX5_goFreely 110 = .ok (.return_, 1) := by decide +kernel
noncomputable def fX5_goFreely (h : pm_H) (a0 : Nat) (p1 : Int32) : Option pm_H := if pm_kd h a0 = 5 then (pm_R h a0 12).bind fun v2 => if pm_kd h v2 = 3 then (pm_R h v2 2).bind fun v5 => (fX12_item h v5 (p1 + 0)).bind fun v7 => if v7 = 11 then ((fX5_leave h a0).bind fun v26 => some v26) else (if v7 = 5 then ((fX12_item h v5 (p1 + 6)).bind fun v24 => some (pm_setI h v2 3 v24)) else (if v7 = 500 then ((fX12_item h v5 (p1 + 2)).bind fun v12 => pm_let ((pm_I h v2 4) + v12) fun y14 => (pm_R h a0 10).bind fun v16 => (fX12_item h v5 (p1 + 3)).bind fun v18 => (fX5_register h a0 v18).bind fun v20 => (fX12_setItem_ h v16 y14 v20).bind fun v22 => some v22) else (some h))) else none else none
set_option maxHeartbeats 4000000 in
set_option maxRecDepth 100000 in
theorem ctX5_goFreely {l : Launch} {G : pm_Gl} {h : pm_H} {a0 : Nat} {p1 : Int32} {r : pm_H} {Qr : Option Value → pm_H → Prop} (hf : fX5_goFreely h a0 p1 = some r) (q : Qr none r) : pm_Ct l G mX5_goFreely [.ref a0, .int p1] h 0 0 Qr := by
  refine pm_body pnX5 (Nat.le_of_ble_eq_true rfl) (fun g C X => ?_)
  have C : pm_C g cX5_goFreely RX5 := C
  show pm_G g 0 [(0, .ref a0), (1, .int p1)] [] h 0 0
  unfold fX5_goFreely at hf
  refine pm_aload_n C dX5_goFreely_0 rfl rfl ?_
  obtain ⟨k1, hf⟩ := pm_if hf
  obtain ⟨v2, e3, hf⟩ := pm_bd hf
  refine pm_getR C dX5_goFreely_1 flX5_51 rfl k1 e3 ?_
  obtain ⟨k4, hf⟩ := pm_if hf
  obtain ⟨v5, e6, hf⟩ := pm_bd hf
  refine pm_getR C dX5_goFreely_4 flX5_131 rfl k4 e6 ?_
  refine pm_iload_n C dX5_goFreely_7 rfl rfl ?_
  refine pm_iconst (v := 0) C dX5_goFreely_8 (by decide) ?_
  refine pm_iadd C dX5_goFreely_9 ?_
  obtain ⟨v7, e8, hf⟩ := pm_bd hf
  refine pm_callS (as := [.ref v5, .int (p1 + 0)]) (st := []) C X dX5_goFreely_10 lnX5_88 myX12_item stX12_item ⟨by decide, by decide⟩ rfl rfl (Nat.le_of_ble_eq_true rfl) (Nat.le_refl _) (Nat.le_refl _) (ctX12_item e8 ?_)
  show pm_G g 13 [(0, .ref a0), (1, .int p1)] [.int v7] h 0 0
  refine pm_istore_n (lv' := [(2, .int v7), (0, .ref a0), (1, .int p1)]) C dX5_goFreely_13 rfl (pm_nl X (by decide)) rfl ?_
  refine pm_iload_n C dX5_goFreely_14 rfl rfl ?_
  refine pm_bipush (v := 11) C dX5_goFreely_15 (by decide) ?_
  refine pm_icmp_ne (tgt := 27) C dX5_goFreely_17 (by decide) (fun c9 => ?_) (fun c9 => ?_)
  · have hf := pm_ie hf c9
    refine pm_iload_n C dX5_goFreely_27 rfl rfl ?_
    refine pm_iconst (v := 5) C dX5_goFreely_28 (by decide) ?_
    refine pm_icmp_ne (tgt := 56) C dX5_goFreely_29 (by decide) (fun c10 => ?_) (fun c10 => ?_)
    · have hf := pm_ie hf c10
      refine pm_iload_n C dX5_goFreely_56 rfl rfl ?_
      refine pm_sipush (v := 500) C dX5_goFreely_57 (by decide) ?_
      refine pm_icmp_ne (tgt := 110) C dX5_goFreely_60 (by decide) (fun c11 => ?_) (fun c11 => ?_)
      · have hf := pm_ie hf c11
        cases hf
        exact pm_vret C X dX5_goFreely_110 rfl (Nat.le_refl _) (Nat.le_refl _) q
      · have hf := pm_it hf c11
        refine pm_aload_n C dX5_goFreely_63 rfl rfl ?_
        refine pm_getR C dX5_goFreely_64 flX5_51 rfl k1 e3 ?_
        refine pm_getI C dX5_goFreely_67 flX5_198 rfl k4 rfl ?_
        refine pm_aload_n C dX5_goFreely_70 rfl rfl ?_
        refine pm_getR C dX5_goFreely_71 flX5_51 rfl k1 e3 ?_
        refine pm_getR C dX5_goFreely_74 flX5_131 rfl k4 e6 ?_
        refine pm_iload_n C dX5_goFreely_77 rfl rfl ?_
        refine pm_iconst (v := 2) C dX5_goFreely_78 (by decide) ?_
        refine pm_iadd C dX5_goFreely_79 ?_
        obtain ⟨v12, e13, hf⟩ := pm_bd hf
        refine pm_callS (as := [.ref v5, .int (p1 + 2)]) (st := [.int (pm_I h v2 4)]) C X dX5_goFreely_80 lnX5_88 myX12_item stX12_item ⟨by decide, by decide⟩ rfl rfl (Nat.le_of_ble_eq_true rfl) (Nat.le_refl _) (Nat.le_refl _) (ctX12_item e13 ?_)
        show pm_G g 83 [(2, .int v7), (0, .ref a0), (1, .int p1)] [.int v12, .int (pm_I h v2 4)] h 0 0
        refine pm_iadd C dX5_goFreely_83 ?_
        obtain ⟨y14, e15, hf⟩ := pm_lt hf
        refine pm_topI e15 ?_
        refine pm_istore_n (lv' := [(3, .int y14), (2, .int v7), (0, .ref a0), (1, .int p1)]) C dX5_goFreely_84 rfl (pm_nl X (by decide)) rfl ?_
        refine pm_aload_n C dX5_goFreely_85 rfl rfl ?_
        obtain ⟨v16, e17, hf⟩ := pm_bd hf
        refine pm_getR C dX5_goFreely_86 flX5_15 rfl k1 e17 ?_
        refine pm_iload_n C dX5_goFreely_89 rfl rfl ?_
        refine pm_aload_n C dX5_goFreely_90 rfl rfl ?_
        refine pm_aload_n C dX5_goFreely_91 rfl rfl ?_
        refine pm_getR C dX5_goFreely_92 flX5_51 rfl k1 e3 ?_
        refine pm_getR C dX5_goFreely_95 flX5_131 rfl k4 e6 ?_
        refine pm_iload_n C dX5_goFreely_98 rfl rfl ?_
        refine pm_iconst (v := 3) C dX5_goFreely_99 (by decide) ?_
        refine pm_iadd C dX5_goFreely_100 ?_
        obtain ⟨v18, e19, hf⟩ := pm_bd hf
        refine pm_callS (as := [.ref v5, .int (p1 + 3)]) (st := [.ref a0, .int y14, .ref v16]) C X dX5_goFreely_101 lnX5_88 myX12_item stX12_item ⟨by decide, by decide⟩ rfl rfl (Nat.le_of_ble_eq_true rfl) (Nat.le_refl _) (Nat.le_refl _) (ctX12_item e19 ?_)
        show pm_G g 104 [(3, .int y14), (2, .int v7), (0, .ref a0), (1, .int p1)] [.int v18, .ref a0, .int y14, .ref v16] h 0 0
        obtain ⟨v20, e21, hf⟩ := pm_bd hf
        refine pm_callV (as := [.int v18]) (st := [.int y14, .ref v16]) C X dX5_goFreely_104 lnX5_280 myX5_register viX5_register ⟨by decide, by decide⟩ rfl rfl k1 (Nat.le_of_ble_eq_true rfl) (Nat.le_refl _) (Nat.le_refl _) (ctX5_register e21 ?_)
        show pm_G g 107 [(3, .int y14), (2, .int v7), (0, .ref a0), (1, .int p1)] [.long v20, .int y14, .ref v16] h 0 0
        obtain ⟨v22, e23, hf⟩ := pm_bd hf
        refine pm_callS (as := [.ref v16, .int y14, .long v20]) (st := []) C X dX5_goFreely_107 lnX5_99 myX12_setItem_ stX12_setItem_ ⟨by decide, by decide⟩ rfl rfl (Nat.le_of_ble_eq_true rfl) (Nat.le_refl _) (Nat.le_refl _) (ctX12_setItem_ e23 ?_)
        show pm_G g 110 [(3, .int y14), (2, .int v7), (0, .ref a0), (1, .int p1)] [] v22 0 0
        cases hf
        exact pm_vret C X dX5_goFreely_110 rfl (Nat.le_refl _) (Nat.le_refl _) q
    · have hf := pm_it hf c10
      refine pm_aload_n C dX5_goFreely_32 rfl rfl ?_
      refine pm_getR C dX5_goFreely_33 flX5_51 rfl k1 e3 ?_
      refine pm_aload_n C dX5_goFreely_36 rfl rfl ?_
      refine pm_getR C dX5_goFreely_37 flX5_51 rfl k1 e3 ?_
      refine pm_getR C dX5_goFreely_40 flX5_131 rfl k4 e6 ?_
      refine pm_iload_n C dX5_goFreely_43 rfl rfl ?_
      refine pm_bipush (v := 6) C dX5_goFreely_44 (by decide) ?_
      refine pm_iadd C dX5_goFreely_46 ?_
      obtain ⟨v24, e25, hf⟩ := pm_bd hf
      refine pm_callS (as := [.ref v5, .int (p1 + 6)]) (st := [.ref v2]) C X dX5_goFreely_47 lnX5_88 myX12_item stX12_item ⟨by decide, by decide⟩ rfl rfl (Nat.le_of_ble_eq_true rfl) (Nat.le_refl _) (Nat.le_refl _) (ctX12_item e25 ?_)
      show pm_G g 50 [(2, .int v7), (0, .ref a0), (1, .int p1)] [.int v24, .ref v2] h 0 0
      refine pm_putI C dX5_goFreely_50 flX5_128 rfl rfl k4 rfl rfl ?_
      refine pm_goto (tgt := 110) C dX5_goFreely_53 (by decide) ?_
      cases hf
      exact pm_vret C X dX5_goFreely_110 rfl (Nat.le_refl _) (Nat.le_refl _) q
  · have hf := pm_it hf c9
    refine pm_aload_n C dX5_goFreely_20 rfl rfl ?_
    obtain ⟨v26, e27, hf⟩ := pm_bd hf
    refine pm_callV (as := []) (st := []) C X dX5_goFreely_21 lnX5_164 myX5_leave viX5_leave ⟨by decide, by decide⟩ rfl rfl k1 (Nat.le_of_ble_eq_true rfl) (Nat.le_refl _) (Nat.le_refl _) (ctX5_leave e27 ?_)
    show pm_G g 24 [(2, .int v7), (0, .ref a0), (1, .int p1)] [] v26 0 0
    refine pm_goto (tgt := 110) C dX5_goFreely_24 (by decide) ?_
    cases hf
    exact pm_vret C X dX5_goFreely_110 rfl (Nat.le_refl _) (Nat.le_refl _) q
