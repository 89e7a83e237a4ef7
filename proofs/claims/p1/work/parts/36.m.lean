theorem dX10_atTable_0 : decode cX10_atTable 0 = .ok (.aload_n 0, 1) := by decide +kernel
theorem dX10_atTable_1 : decode cX10_atTable 1 = .ok (.getfield 12, 3) := by decide +kernel
theorem dX10_atTable_4 : decode cX10_atTable 4 = .ok (.iload_n 1, 1) := by decide +kernel
theorem dX10_atTable_5 : decode cX10_atTable 5 = .ok (.lload_n 3, 1) := by decide +kernel
theorem dX10_atTable_6 : decode cX10_atTable 6 = .ok (.lconst 1, 1) := by decide +kernel
theorem dX10_atTable_7 : decode cX10_atTable 7 = .ok (.invokevirtual 326, 3) := by decide +kernel
theorem dX10_atTable_10 : decode cX10_atTable 10 = .ok (.ifCond .ne 11, 3) := by decide +kernel
theorem dX10_atTable_13 : decode cX10_atTable 13 = .ok (.aload_n 0, 1) := by decide +kernel
theorem dX10_atTable_14 : decode cX10_atTable 14 = .ok (.bipush 6, 2) := by decide +kernel
theorem dX10_atTable_16 : decode cX10_atTable 16 = .ok (.putfield 263, 3) := by decide +kernel
theorem dX10_atTable_19 : decode cX10_atTable 19 = .ok (.lconst 0, 1) := by decide +kernel
theorem dX10_atTable_20 : decode cX10_atTable 20 = .ok (.lreturn, 1) := by decide +kernel
theorem dX10_atTable_21 : decode cX10_atTable 21 = .ok (.iload_n 2, 1) := by decide +kernel
theorem dX10_atTable_22 : decode cX10_atTable 22 = .ok (.bipush 37, 2) := by decide +kernel
theorem dX10_atTable_24 : decode cX10_atTable 24 = .ok (.if_icmp .ne 14, 3) := by decide +kernel
theorem dX10_atTable_27 : decode cX10_atTable 27 = .ok (.aload_n 0, 1) := by decide +kernel
theorem dX10_atTable_28 : decode cX10_atTable 28 = .ok (.getfield 12, 3) := by decide +kernel
theorem dX10_atTable_31 : decode cX10_atTable 31 = .ok (.iload_n 1, 1) := by decide +kernel
theorem dX10_atTable_32 : decode cX10_atTable 32 = .ok (.lload_n 3, 1) := by decide +kernel
theorem dX10_atTable_33 : decode cX10_atTable 33 = .ok (.invokevirtual 327, 3) := by decide +kernel
theorem dX10_atTable_36 : decode cX10_atTable 36 = .ok (.i2l, 1) := by decide +kernel
theorem dX10_atTable_37 : decode cX10_atTable 37 = .ok (.lreturn, 1) := by decide +kernel
theorem dX10_atTable_38 : decode cX10_atTable 38 = .ok (.aload_n 0, 1) := by decide +kernel
theorem dX10_atTable_39 : decode cX10_atTable 39 = .ok (.getfield 12, 3) := by decide +kernel
theorem dX10_atTable_42 : decode cX10_atTable 42 = .ok (.iload_n 1, 1) := by decide +kernel
theorem dX10_atTable_43 : decode cX10_atTable 43 = .ok (.lload_n 3, 1) := by decide +kernel
theorem dX10_atTable_44 : decode cX10_atTable 44 = .ok (.lload 5, 2) := by decide +kernel
theorem dX10_atTable_46 : decode cX10_atTable 46 = .ok (.l2i, 1) := by decide +kernel
theorem dX10_atTable_47 : decode cX10_atTable 47 = .ok (.invokevirtual 330, 3) := by decide +kernel
theorem dX10_atTable_50 : decode cX10_atTable 50 = .ok (.lconst 0, 1) := by decide +kernel
theorem dX10_atTable_51 : decode cX10_atTable 51 = .ok (.lreturn, 1) := by decide +kernel
def fX10_atTable (h : pm_H) (a0 : Nat) (p1 : Int32) (p2 : Int32) (p3 : Int64) (p4 : Int64) : Option (Int64 × pm_H) := if pm_kd h a0 = 10 then (pm_R h a0 4).bind fun v2 => if pm_kd h v2 = 11 then (fX11_reaches h v2 p1 p3 1).bind fun v5 => if v5 = 0 then (some ((0, pm_setI h a0 0 6))) else (if p2 = 37 then ((fX11_entry h v2 p1 p3).bind fun v11 => some ((v11.toInt64, h))) else ((fX11_setEntry h v2 p1 p3 p4.toInt32).bind fun v9 => some ((0, v9)))) else none else none
set_option maxHeartbeats 4000000 in
set_option maxRecDepth 100000 in
theorem ctX10_atTable {l : Launch} {G : pm_Gl} {h : pm_H} {a0 : Nat} {p1 : Int32} {p2 : Int32} {p3 : Int64} {p4 : Int64} {r : (Int64 × pm_H)} {Qr : Option Value → pm_H → Prop} (hf : fX10_atTable h a0 p1 p2 p3 p4 = some r) (q : Qr (some (.long r.1)) r.2) : pm_Ct l G mX10_atTable [.ref a0, .int p1, .int p2, .long p3, .long p4] h 0 0 Qr := by
  refine pm_body pnX10 (Nat.le_of_ble_eq_true rfl) (fun g C X => ?_)
  have C : pm_C g cX10_atTable RX10 := C
  show pm_G g 0 [(0, .ref a0), (1, .int p1), (2, .int p2), (3, .long p3), (5, .long p4)] [] h 0 0
  unfold fX10_atTable at hf
  refine pm_aload_n C dX10_atTable_0 rfl rfl ?_
  obtain ⟨k1, hf⟩ := pm_if hf
  obtain ⟨v2, e3, hf⟩ := pm_bd hf
  refine pm_getR C dX10_atTable_1 flX10_12 rfl k1 e3 ?_
  refine pm_iload_n C dX10_atTable_4 rfl rfl ?_
  refine pm_lload_n C dX10_atTable_5 rfl rfl ?_
  refine pm_lconst (v := 1) C dX10_atTable_6 (by decide) ?_
  obtain ⟨k4, hf⟩ := pm_if hf
  obtain ⟨v5, e6, hf⟩ := pm_bd hf
  refine pm_callV (as := [.int p1, .long p3, .long 1]) (st := []) C X dX10_atTable_7 lnX10_326 myX11_reaches viX11_reaches ⟨by decide, by decide⟩ rfl rfl k4 (Nat.le_of_ble_eq_true rfl) (Nat.le_refl _) (Nat.le_refl _) (ctX11_reaches e6 ?_)
  show pm_G g 10 [(0, .ref a0), (1, .int p1), (2, .int p2), (3, .long p3), (5, .long p4)] [.int v5] h 0 0
  refine pm_if_ne (tgt := 21) C dX10_atTable_10 (by decide) (fun c7 => ?_) (fun c7 => ?_)
  · have hf := pm_ie hf c7
    refine pm_iload_n C dX10_atTable_21 rfl rfl ?_
    refine pm_bipush (v := 37) C dX10_atTable_22 (by decide) ?_
    refine pm_icmp_ne (tgt := 38) C dX10_atTable_24 (by decide) (fun c8 => ?_) (fun c8 => ?_)
    · have hf := pm_ie hf c8
      refine pm_aload_n C dX10_atTable_38 rfl rfl ?_
      refine pm_getR C dX10_atTable_39 flX10_12 rfl k1 e3 ?_
      refine pm_iload_n C dX10_atTable_42 rfl rfl ?_
      refine pm_lload_n C dX10_atTable_43 rfl rfl ?_
      refine pm_lload C dX10_atTable_44 rfl ?_
      refine pm_l2i C dX10_atTable_46 ?_
      obtain ⟨v9, e10, hf⟩ := pm_bd hf
      refine pm_callV (as := [.int p1, .long p3, .int p4.toInt32]) (st := []) C X dX10_atTable_47 lnX10_330 myX11_setEntry viX11_setEntry ⟨by decide, by decide⟩ rfl rfl k4 (Nat.le_of_ble_eq_true rfl) (Nat.le_refl _) (Nat.le_refl _) (ctX11_setEntry e10 ?_)
      show pm_G g 50 [(0, .ref a0), (1, .int p1), (2, .int p2), (3, .long p3), (5, .long p4)] [] v9 0 0
      refine pm_lconst (v := 0) C dX10_atTable_50 (by decide) ?_
      cases hf
      exact pm_lret C X dX10_atTable_51 rfl (Nat.le_refl _) (Nat.le_refl _) q
    · have hf := pm_it hf c8
      refine pm_aload_n C dX10_atTable_27 rfl rfl ?_
      refine pm_getR C dX10_atTable_28 flX10_12 rfl k1 e3 ?_
      refine pm_iload_n C dX10_atTable_31 rfl rfl ?_
      refine pm_lload_n C dX10_atTable_32 rfl rfl ?_
      obtain ⟨v11, e12, hf⟩ := pm_bd hf
      refine pm_callV (as := [.int p1, .long p3]) (st := []) C X dX10_atTable_33 lnX10_327 myX11_entry viX11_entry ⟨by decide, by decide⟩ rfl rfl k4 (Nat.le_of_ble_eq_true rfl) (Nat.le_refl _) (Nat.le_refl _) (ctX11_entry e12 ?_)
      show pm_G g 36 [(0, .ref a0), (1, .int p1), (2, .int p2), (3, .long p3), (5, .long p4)] [.int v11] h 0 0
      refine pm_i2l C dX10_atTable_36 ?_
      cases hf
      exact pm_lret C X dX10_atTable_37 rfl (Nat.le_refl _) (Nat.le_refl _) q
  · have hf := pm_it hf c7
    refine pm_aload_n C dX10_atTable_13 rfl rfl ?_
    refine pm_bipush (v := 6) C dX10_atTable_14 (by decide) ?_
    refine pm_putI C dX10_atTable_16 flX10_263 rfl rfl k1 rfl rfl ?_
    refine pm_lconst (v := 0) C dX10_atTable_19 (by decide) ?_
    cases hf
    exact pm_lret C X dX10_atTable_20 rfl (Nat.le_refl _) (Nat.le_refl _) q
theorem dX10_hasRoom_0 : decode cX10_hasRoom 0 = .ok (.aload_n 1, 1) := by decide +kernel
theorem dX10_hasRoom_1 : decode cX10_hasRoom 1 = .ok (.getfield 144, 3) := by decide +kernel
theorem dX10_hasRoom_4 : decode cX10_hasRoom 4 = .ok (.arraylength, 1) := by decide +kernel
theorem dX10_hasRoom_5 : decode cX10_hasRoom 5 = .ok (.istore 4, 2) := by decide +kernel
theorem dX10_hasRoom_7 : decode cX10_hasRoom 7 = .ok (.iconst 0, 1) := by decide +kernel
theorem dX10_hasRoom_8 : decode cX10_hasRoom 8 = .ok (.istore 5, 2) := by decide +kernel
theorem dX10_hasRoom_10 : decode cX10_hasRoom 10 = .ok (.iload 5, 2) := by decide +kernel
theorem dX10_hasRoom_12 : decode cX10_hasRoom 12 = .ok (.iload_n 3, 1) := by decide +kernel
theorem dX10_hasRoom_13 : decode cX10_hasRoom 13 = .ok (.if_icmp .ge 24, 3) := by decide +kernel
theorem dX10_hasRoom_16 : decode cX10_hasRoom 16 = .ok (.aload_n 2, 1) := by decide +kernel
theorem dX10_hasRoom_17 : decode cX10_hasRoom 17 = .ok (.iconst 2, 1) := by decide +kernel
theorem dX10_hasRoom_18 : decode cX10_hasRoom 18 = .ok (.iload 5, 2) := by decide +kernel
theorem dX10_hasRoom_20 : decode cX10_hasRoom 20 = .ok (.imul, 1) := by decide +kernel
theorem dX10_hasRoom_21 : decode cX10_hasRoom 21 = .ok (.invokestatic 104, 3) := by decide +kernel
theorem dX10_hasRoom_24 : decode cX10_hasRoom 24 = .ok (.iconst (-1), 1) := by decide +kernel
theorem dX10_hasRoom_25 : decode cX10_hasRoom 25 = .ok (.if_icmp .ne 6, 3) := by decide +kernel
theorem dX10_hasRoom_28 : decode cX10_hasRoom 28 = .ok (.iinc 4 1, 3) := by decide +kernel
theorem dX10_hasRoom_31 : decode cX10_hasRoom 31 = .ok (.iinc 5 1, 3) := by decide +kernel
theorem dX10_hasRoom_34 : decode cX10_hasRoom 34 = .ok (.goto (-24), 3) := by decide +kernel
theorem dX10_hasRoom_37 : decode cX10_hasRoom 37 = .ok (.aload_n 1, 1) := by decide +kernel
theorem dX10_hasRoom_38 : decode cX10_hasRoom 38 = .ok (.iconst 1, 1) := by decide +kernel
theorem dX10_hasRoom_39 : decode cX10_hasRoom 39 = .ok (.invokevirtual 147, 3) := by decide +kernel
theorem dX10_hasRoom_42 : decode cX10_hasRoom 42 = .ok (.aload_n 1, 1) := by decide +kernel
theorem dX10_hasRoom_43 : decode cX10_hasRoom 43 = .ok (.iconst 1, 1) := by decide +kernel
theorem dX10_hasRoom_44 : decode cX10_hasRoom 44 = .ok (.invokevirtual 151, 3) := by decide +kernel
theorem dX10_hasRoom_47 : decode cX10_hasRoom 47 = .ok (.isub, 1) := by decide +kernel
theorem dX10_hasRoom_48 : decode cX10_hasRoom 48 = .ok (.istore 5, 2) := by decide +kernel
theorem dX10_hasRoom_50 : decode cX10_hasRoom 50 = .ok (.aload_n 1, 1) := by decide +kernel
theorem dX10_hasRoom_51 : decode cX10_hasRoom 51 = .ok (.iconst 2, 1) := by decide +kernel
theorem dX10_hasRoom_52 : decode cX10_hasRoom 52 = .ok (.invokevirtual 147, 3) := by decide +kernel
theorem dX10_hasRoom_55 : decode cX10_hasRoom 55 = .ok (.aload_n 1, 1) := by decide +kernel
theorem dX10_hasRoom_56 : decode cX10_hasRoom 56 = .ok (.iconst 2, 1) := by decide +kernel
theorem dX10_hasRoom_57 : decode cX10_hasRoom 57 = .ok (.invokevirtual 151, 3) := by decide +kernel
theorem dX10_hasRoom_60 : decode cX10_hasRoom 60 = .ok (.isub, 1) := by decide +kernel
theorem dX10_hasRoom_61 : decode cX10_hasRoom 61 = .ok (.istore 6, 2) := by decide +kernel
theorem dX10_hasRoom_63 : decode cX10_hasRoom 63 = .ok (.aload_n 1, 1) := by decide +kernel
theorem dX10_hasRoom_64 : decode cX10_hasRoom 64 = .ok (.iconst 3, 1) := by decide +kernel
theorem dX10_hasRoom_65 : decode cX10_hasRoom 65 = .ok (.invokevirtual 147, 3) := by decide +kernel
theorem dX10_hasRoom_68 : decode cX10_hasRoom 68 = .ok (.aload_n 1, 1) := by decide +kernel
theorem dX10_hasRoom_69 : decode cX10_hasRoom 69 = .ok (.iconst 3, 1) := by decide +kernel
theorem dX10_hasRoom_70 : decode cX10_hasRoom 70 = .ok (.invokevirtual 151, 3) := by decide +kernel
theorem dX10_hasRoom_73 : decode cX10_hasRoom 73 = .ok (.isub, 1) := by decide +kernel
theorem dX10_hasRoom_74 : decode cX10_hasRoom 74 = .ok (.istore 7, 2) := by decide +kernel
theorem dX10_hasRoom_76 : decode cX10_hasRoom 76 = .ok (.lconst 0, 1) := by decide +kernel
theorem dX10_hasRoom_77 : decode cX10_hasRoom 77 = .ok (.lstore 8, 2) := by decide +kernel
theorem dX10_hasRoom_79 : decode cX10_hasRoom 79 = .ok (.iconst 0, 1) := by decide +kernel
theorem dX10_hasRoom_80 : decode cX10_hasRoom 80 = .ok (.istore 10, 2) := by decide +kernel
theorem dX10_hasRoom_82 : decode cX10_hasRoom 82 = .ok (.iload 10, 2) := by decide +kernel
theorem dX10_hasRoom_84 : decode cX10_hasRoom 84 = .ok (.aload_n 1, 1) := by decide +kernel
theorem dX10_hasRoom_85 : decode cX10_hasRoom 85 = .ok (.getfield 154, 3) := by decide +kernel
theorem dX10_hasRoom_88 : decode cX10_hasRoom 88 = .ok (.arraylength, 1) := by decide +kernel
theorem dX10_hasRoom_89 : decode cX10_hasRoom 89 = .ok (.if_icmp .ge 26, 3) := by decide +kernel
theorem dX10_hasRoom_92 : decode cX10_hasRoom 92 = .ok (.lload 8, 2) := by decide +kernel
theorem dX10_hasRoom_94 : decode cX10_hasRoom 94 = .ok (.aload_n 1, 1) := by decide +kernel
theorem dX10_hasRoom_95 : decode cX10_hasRoom 95 = .ok (.getfield 154, 3) := by decide +kernel
theorem dX10_hasRoom_98 : decode cX10_hasRoom 98 = .ok (.iload 10, 2) := by decide +kernel
theorem dX10_hasRoom_100 : decode cX10_hasRoom 100 = .ok (.iconst 4, 1) := by decide +kernel
theorem dX10_hasRoom_101 : decode cX10_hasRoom 101 = .ok (.iadd, 1) := by decide +kernel
theorem dX10_hasRoom_102 : decode cX10_hasRoom 102 = .ok (.invokestatic 104, 3) := by decide +kernel
theorem dX10_hasRoom_105 : decode cX10_hasRoom 105 = .ok (.i2l, 1) := by decide +kernel
theorem dX10_hasRoom_106 : decode cX10_hasRoom 106 = .ok (.ladd, 1) := by decide +kernel
theorem dX10_hasRoom_107 : decode cX10_hasRoom 107 = .ok (.lstore 8, 2) := by decide +kernel
theorem dX10_hasRoom_109 : decode cX10_hasRoom 109 = .ok (.iinc 10 7, 3) := by decide +kernel
theorem dX10_hasRoom_112 : decode cX10_hasRoom 112 = .ok (.goto (-30), 3) := by decide +kernel
theorem dX10_hasRoom_115 : decode cX10_hasRoom 115 = .ok (.aload_n 0, 1) := by decide +kernel
theorem dX10_hasRoom_116 : decode cX10_hasRoom 116 = .ok (.getfield 86, 3) := by decide +kernel
theorem dX10_hasRoom_119 : decode cX10_hasRoom 119 = .ok (.bipush 16, 2) := by decide +kernel
theorem dX10_hasRoom_121 : decode cX10_hasRoom 121 = .ok (.if_icmp .ge 108, 3) := by decide +kernel
theorem dX10_hasRoom_124 : decode cX10_hasRoom 124 = .ok (.iload 4, 2) := by decide +kernel
theorem dX10_hasRoom_126 : decode cX10_hasRoom 126 = .ok (.sipush 512, 3) := by decide +kernel
theorem dX10_hasRoom_129 : decode cX10_hasRoom 129 = .ok (.aload_n 0, 1) := by decide +kernel
theorem dX10_hasRoom_130 : decode cX10_hasRoom 130 = .ok (.getfield 157, 3) := by decide +kernel
theorem dX10_hasRoom_133 : decode cX10_hasRoom 133 = .ok (.isub, 1) := by decide +kernel
theorem dX10_hasRoom_134 : decode cX10_hasRoom 134 = .ok (.if_icmp .gt 95, 3) := by decide +kernel
theorem dX10_hasRoom_137 : decode cX10_hasRoom 137 = .ok (.iload 5, 2) := by decide +kernel
theorem dX10_hasRoom_139 : decode cX10_hasRoom 139 = .ok (.bipush 32, 2) := by decide +kernel
theorem dX10_hasRoom_141 : decode cX10_hasRoom 141 = .ok (.aload_n 0, 1) := by decide +kernel
theorem dX10_hasRoom_142 : decode cX10_hasRoom 142 = .ok (.getfield 12, 3) := by decide +kernel
theorem dX10_hasRoom_145 : decode cX10_hasRoom 145 = .ok (.getfield 160, 3) := by decide +kernel
theorem dX10_hasRoom_148 : decode cX10_hasRoom 148 = .ok (.isub, 1) := by decide +kernel
theorem dX10_hasRoom_149 : decode cX10_hasRoom 149 = .ok (.if_icmp .gt 80, 3) := by decide +kernel
theorem dX10_hasRoom_152 : decode cX10_hasRoom 152 = .ok (.aload_n 1, 1) := by decide +kernel
theorem dX10_hasRoom_153 : decode cX10_hasRoom 153 = .ok (.iconst 1, 1) := by decide +kernel
theorem dX10_hasRoom_154 : decode cX10_hasRoom 154 = .ok (.invokestatic 162, 3) := by decide +kernel
theorem dX10_hasRoom_157 : decode cX10_hasRoom 157 = .ok (.aload_n 0, 1) := by decide +kernel
theorem dX10_hasRoom_158 : decode cX10_hasRoom 158 = .ok (.getfield 12, 3) := by decide +kernel
theorem dX10_hasRoom_161 : decode cX10_hasRoom 161 = .ok (.getfield 166, 3) := by decide +kernel
theorem dX10_hasRoom_164 : decode cX10_hasRoom 164 = .ok (.i2l, 1) := by decide +kernel
theorem dX10_hasRoom_165 : decode cX10_hasRoom 165 = .ok (.lcmp, 1) := by decide +kernel
theorem dX10_hasRoom_166 : decode cX10_hasRoom 166 = .ok (.ifCond .gt 63, 3) := by decide +kernel
theorem dX10_hasRoom_169 : decode cX10_hasRoom 169 = .ok (.iload 6, 2) := by decide +kernel
theorem dX10_hasRoom_171 : decode cX10_hasRoom 171 = .ok (.bipush 16, 2) := by decide +kernel
theorem dX10_hasRoom_173 : decode cX10_hasRoom 173 = .ok (.aload_n 0, 1) := by decide +kernel
theorem dX10_hasRoom_174 : decode cX10_hasRoom 174 = .ok (.getfield 21, 3) := by decide +kernel
theorem dX10_hasRoom_177 : decode cX10_hasRoom 177 = .ok (.getfield 169, 3) := by decide +kernel
theorem dX10_hasRoom_180 : decode cX10_hasRoom 180 = .ok (.isub, 1) := by decide +kernel
theorem dX10_hasRoom_181 : decode cX10_hasRoom 181 = .ok (.if_icmp .gt 48, 3) := by decide +kernel
theorem dX10_hasRoom_184 : decode cX10_hasRoom 184 = .ok (.aload_n 1, 1) := by decide +kernel
theorem dX10_hasRoom_185 : decode cX10_hasRoom 185 = .ok (.iconst 2, 1) := by decide +kernel
theorem dX10_hasRoom_186 : decode cX10_hasRoom 186 = .ok (.invokestatic 162, 3) := by decide +kernel
theorem dX10_hasRoom_189 : decode cX10_hasRoom 189 = .ok (.aload_n 0, 1) := by decide +kernel
theorem dX10_hasRoom_190 : decode cX10_hasRoom 190 = .ok (.getfield 21, 3) := by decide +kernel
theorem dX10_hasRoom_193 : decode cX10_hasRoom 193 = .ok (.getfield 170, 3) := by decide +kernel
theorem dX10_hasRoom_196 : decode cX10_hasRoom 196 = .ok (.i2l, 1) := by decide +kernel
theorem dX10_hasRoom_197 : decode cX10_hasRoom 197 = .ok (.lcmp, 1) := by decide +kernel
theorem dX10_hasRoom_198 : decode cX10_hasRoom 198 = .ok (.ifCond .gt 31, 3) := by decide +kernel
theorem dX10_hasRoom_201 : decode cX10_hasRoom 201 = .ok (.iload 7, 2) := by decide +kernel
theorem dX10_hasRoom_203 : decode cX10_hasRoom 203 = .ok (.sipush 256, 3) := by decide +kernel
theorem dX10_hasRoom_206 : decode cX10_hasRoom 206 = .ok (.aload_n 0, 1) := by decide +kernel
theorem dX10_hasRoom_207 : decode cX10_hasRoom 207 = .ok (.getfield 171, 3) := by decide +kernel
theorem dX10_hasRoom_210 : decode cX10_hasRoom 210 = .ok (.isub, 1) := by decide +kernel
theorem dX10_hasRoom_211 : decode cX10_hasRoom 211 = .ok (.if_icmp .gt 18, 3) := by decide +kernel
theorem dX10_hasRoom_214 : decode cX10_hasRoom 214 = .ok (.lload 8, 2) := by decide +kernel
theorem dX10_hasRoom_216 : decode cX10_hasRoom 216 = .ok (.aload_n 0, 1) := by decide +kernel
theorem dX10_hasRoom_217 : decode cX10_hasRoom 217 = .ok (.getfield 61, 3) := by decide +kernel
theorem dX10_hasRoom_220 : decode cX10_hasRoom 220 = .ok (.i2l, 1) := by decide +kernel
theorem dX10_hasRoom_221 : decode cX10_hasRoom 221 = .ok (.lcmp, 1) := by decide +kernel
theorem dX10_hasRoom_222 : decode cX10_hasRoom 222 = .ok (.ifCond .gt 7, 3) := by decide +kernel
theorem dX10_hasRoom_225 : decode cX10_hasRoom 225 = .ok (.iconst 1, 1) := by decide +kernel
theorem dX10_hasRoom_226 : decode cX10_hasRoom 226 = .ok (.goto 4, 3) := by decide +kernel
theorem dX10_hasRoom_229 : decode cX10_hasRoom 229 = .ok (.iconst 0, 1) := by decide +kernel
theorem dX10_hasRoom_230 : decode cX10_hasRoom 230 = .ok (.ireturn, 1) := by decide +kernel
noncomputable def tX10_hasRoom_10 (h : pm_H) (x0 : Nat) (x1 : Nat) (x2 : Nat) (x3 : Int32) (x4 : Int32) (x5 : Int32) : Option (((Nat × Nat × Nat × Int32 × Int32 × Int32) ⊕ (Nat × Nat × Int32 × Int32 × Int32 × Int32 × Int64 × Int32)) ⊕ Int32) := if x3 ≤ x5 then (if pm_kd h x1 = 7 then (fX7_count h x1 1).bind fun v9 => (fX7_imported h x1 1).bind fun v11 => pm_let (v9 - v11) fun y13 => (fX7_count h x1 2).bind fun v15 => (fX7_imported h x1 2).bind fun v17 => pm_let (v15 - v17) fun y19 => (fX7_count h x1 3).bind fun v21 => (fX7_imported h x1 3).bind fun v23 => pm_let (v21 - v23) fun y25 => some (.inl (.inr ((x0, x1, x4, y13, y19, y25, 0, 0)))) else none) else ((fX12_item h x2 (2 * x5)).bind fun v27 => if v27 = (-1) then (pm_let (x4 + 1) fun y32 => pm_let (x5 + 1) fun y34 => some (.inl (.inl ((x0, x1, x2, x3, y32, y34))))) else (pm_let (x5 + 1) fun y30 => some (.inl (.inl ((x0, x1, x2, x3, x4, y30))))))
noncomputable def tX10_hasRoom_82 (h : pm_H) (x0 : Nat) (x1 : Nat) (x4 : Int32) (x5 : Int32) (x6 : Int32) (x7 : Int32) (x8 : Int64) (x10 : Int32) : Option (((Nat × Nat × Nat × Int32 × Int32 × Int32) ⊕ (Nat × Nat × Int32 × Int32 × Int32 × Int32 × Int64 × Int32)) ⊕ Int32) := if pm_kd h x1 = 7 then (pm_R h x1 9).bind fun v37 => if pm_kd h v37 = 34 then if (Int32.ofNat (pm_ln h v37)) ≤ x10 then (if pm_kd h x0 = 10 then if 16 ≤ (pm_I h x0 3) then (some (.inr (0))) else (if (512 - (pm_I h x0 1)) < x4 then (some (.inr (0))) else ((pm_R h x0 4).bind fun v44 => if pm_kd h v44 = 11 then if (32 - (pm_I h v44 0)) < x5 then (some (.inr (0))) else ((fX10_leastInAll h x1 1).bind fun v48 => if ((pm_I h v44 1).toInt64) < v48 then (some (.inr (0))) else ((pm_R h x0 5).bind fun v51 => if pm_kd h v51 = 6 then if (16 - (pm_I h v51 0)) < x6 then (some (.inr (0))) else ((fX10_leastInAll h x1 2).bind fun v55 => if ((pm_I h v51 1).toInt64) < v55 then (some (.inr (0))) else (if (256 - (pm_I h x0 9)) < x7 then (some (.inr (0))) else (if ((pm_I h x0 17).toInt64) < x8 then (some (.inr (0))) else (some (.inr (1)))))) else none)) else none)) else none) else ((fX12_item h v37 (x10 + 4)).bind fun v60 => pm_let (x8 + v60.toInt64) fun y62 => pm_let (x10 + 7) fun y64 => some (.inl (.inr ((x0, x1, x4, x5, x6, x7, y62, y64))))) else none else none
noncomputable def sX10_hasRoom (h : pm_H) : ((Nat × Nat × Nat × Int32 × Int32 × Int32) ⊕ (Nat × Nat × Int32 × Int32 × Int32 × Int32 × Int64 × Int32)) → Option (((Nat × Nat × Nat × Int32 × Int32 × Int32) ⊕ (Nat × Nat × Int32 × Int32 × Int32 × Int32 × Int64 × Int32)) ⊕ Int32) := fun z => match z with
  | .inl (x0, x1, x2, x3, x4, x5) => tX10_hasRoom_10 h x0 x1 x2 x3 x4 x5
  | .inr (x0, x1, x4, x5, x6, x7, x8, x10) => tX10_hasRoom_82 h x0 x1 x4 x5 x6 x7 x8 x10
noncomputable def fX10_hasRoom (h : pm_H) (a0 : Nat) (p1 : Nat) (p2 : Nat) (p3 : Int32) : Option Int32 := if pm_kd h p1 = 7 then (pm_R h p1 12).bind fun v2 => if pm_kd h v2 = 38 then pm_let (Int32.ofNat (pm_ln h v2)) fun y5 => pm_lim (sX10_hasRoom h) (.inl ((a0, p1, p2, p3, y5, 0))) else none else none
set_option maxHeartbeats 4000000 in
set_option maxRecDepth 100000 in
theorem lpX10_hasRoom {g : pm_Gm} {l : Launch} {G : pm_Gl} {Qr : Option Value → pm_H → Prop} (C : pm_C g cX10_hasRoom RX10) (X : pm_X g l G mX10_hasRoom 0 0 Qr) {h : pm_H} {r : Int32} (q : Qr (some (.int r)) h) : ∀ n : Nat, (∀ (x0 : Nat) (x1 : Nat) (x2 : Nat) (x3 : Int32) (x4 : Int32) (x5 : Int32), pm_iter (sX10_hasRoom h) n (.inl (x0, x1, x2, x3, x4, x5)) = some r → pm_G g 10 [(0, .ref x0), (1, .ref x1), (2, .ref x2), (3, .int x3), (4, .int x4), (5, .int x5)] [] h 0 0) ∧ (∀ (x0 : Nat) (x1 : Nat) (x4 : Int32) (x5 : Int32) (x6 : Int32) (x7 : Int32) (x8 : Int64) (x10 : Int32), pm_iter (sX10_hasRoom h) n (.inr (x0, x1, x4, x5, x6, x7, x8, x10)) = some r → pm_G g 82 [(0, .ref x0), (1, .ref x1), (4, .int x4), (5, .int x5), (6, .int x6), (7, .int x7), (8, .long x8), (10, .int x10)] [] h 0 0) := by
  intro n
  induction n with
  | zero => exact ⟨fun _ _ _ _ _ _ hf => (by cases hf), fun _ _ _ _ _ _ _ _ hf => (by cases hf)⟩
  | succ n ih =>
    refine ⟨fun x0 x1 x2 x3 x4 x5 hf => ?_, ?_⟩
    · obtain ⟨y, hf, hi⟩ := pm_iter_s hf
      have hf : tX10_hasRoom_10 h x0 x1 x2 x3 x4 x5 = some y := hf
      unfold tX10_hasRoom_10 at hf
      refine pm_iload C dX10_hasRoom_10 rfl ?_
      refine pm_iload_n C dX10_hasRoom_12 rfl rfl ?_
      refine pm_icmp_ge (tgt := 37) C dX10_hasRoom_13 (by decide) (fun c7 => ?_) (fun c7 => ?_)
      · have hf := pm_it hf c7
        refine pm_aload_n C dX10_hasRoom_37 rfl rfl ?_
        refine pm_iconst (v := 1) C dX10_hasRoom_38 (by decide) ?_
        obtain ⟨k8, hf⟩ := pm_if hf
        obtain ⟨v9, e10, hf⟩ := pm_bd hf
        refine pm_callV (as := [.int 1]) (st := []) C X dX10_hasRoom_39 lnX10_147 myX7_count viX7_count ⟨by decide, by decide⟩ rfl rfl k8 (Nat.le_of_ble_eq_true rfl) (Nat.le_refl _) (Nat.le_refl _) (ctX7_count e10 ?_)
        show pm_G g 42 [(0, .ref x0), (1, .ref x1), (2, .ref x2), (3, .int x3), (4, .int x4), (5, .int x5)] [.int v9] h 0 0
        refine pm_aload_n C dX10_hasRoom_42 rfl rfl ?_
        refine pm_iconst (v := 1) C dX10_hasRoom_43 (by decide) ?_
        obtain ⟨v11, e12, hf⟩ := pm_bd hf
        refine pm_callV (as := [.int 1]) (st := [.int v9]) C X dX10_hasRoom_44 lnX10_151 myX7_imported viX7_imported ⟨by decide, by decide⟩ rfl rfl k8 (Nat.le_of_ble_eq_true rfl) (Nat.le_refl _) (Nat.le_refl _) (ctX7_imported e12 ?_)
        show pm_G g 47 [(0, .ref x0), (1, .ref x1), (2, .ref x2), (3, .int x3), (4, .int x4), (5, .int x5)] [.int v11, .int v9] h 0 0
        refine pm_isub C dX10_hasRoom_47 ?_
        obtain ⟨y13, e14, hf⟩ := pm_lt hf
        refine pm_topI e14 ?_
        refine pm_istore (lv' := [(5, .int y13), (0, .ref x0), (1, .ref x1), (2, .ref x2), (3, .int x3), (4, .int x4)]) C dX10_hasRoom_48 (pm_nl X (by decide)) rfl ?_
        refine pm_aload_n C dX10_hasRoom_50 rfl rfl ?_
        refine pm_iconst (v := 2) C dX10_hasRoom_51 (by decide) ?_
        obtain ⟨v15, e16, hf⟩ := pm_bd hf
        refine pm_callV (as := [.int 2]) (st := []) C X dX10_hasRoom_52 lnX10_147 myX7_count viX7_count ⟨by decide, by decide⟩ rfl rfl k8 (Nat.le_of_ble_eq_true rfl) (Nat.le_refl _) (Nat.le_refl _) (ctX7_count e16 ?_)
        show pm_G g 55 [(5, .int y13), (0, .ref x0), (1, .ref x1), (2, .ref x2), (3, .int x3), (4, .int x4)] [.int v15] h 0 0
        refine pm_aload_n C dX10_hasRoom_55 rfl rfl ?_
        refine pm_iconst (v := 2) C dX10_hasRoom_56 (by decide) ?_
        obtain ⟨v17, e18, hf⟩ := pm_bd hf
        refine pm_callV (as := [.int 2]) (st := [.int v15]) C X dX10_hasRoom_57 lnX10_151 myX7_imported viX7_imported ⟨by decide, by decide⟩ rfl rfl k8 (Nat.le_of_ble_eq_true rfl) (Nat.le_refl _) (Nat.le_refl _) (ctX7_imported e18 ?_)
        show pm_G g 60 [(5, .int y13), (0, .ref x0), (1, .ref x1), (2, .ref x2), (3, .int x3), (4, .int x4)] [.int v17, .int v15] h 0 0
        refine pm_isub C dX10_hasRoom_60 ?_
        obtain ⟨y19, e20, hf⟩ := pm_lt hf
        refine pm_topI e20 ?_
        refine pm_istore (lv' := [(6, .int y19), (5, .int y13), (0, .ref x0), (1, .ref x1), (2, .ref x2), (3, .int x3), (4, .int x4)]) C dX10_hasRoom_61 (pm_nl X (by decide)) rfl ?_
        refine pm_aload_n C dX10_hasRoom_63 rfl rfl ?_
        refine pm_iconst (v := 3) C dX10_hasRoom_64 (by decide) ?_
        obtain ⟨v21, e22, hf⟩ := pm_bd hf
        refine pm_callV (as := [.int 3]) (st := []) C X dX10_hasRoom_65 lnX10_147 myX7_count viX7_count ⟨by decide, by decide⟩ rfl rfl k8 (Nat.le_of_ble_eq_true rfl) (Nat.le_refl _) (Nat.le_refl _) (ctX7_count e22 ?_)
        show pm_G g 68 [(6, .int y19), (5, .int y13), (0, .ref x0), (1, .ref x1), (2, .ref x2), (3, .int x3), (4, .int x4)] [.int v21] h 0 0
        refine pm_aload_n C dX10_hasRoom_68 rfl rfl ?_
        refine pm_iconst (v := 3) C dX10_hasRoom_69 (by decide) ?_
        obtain ⟨v23, e24, hf⟩ := pm_bd hf
        refine pm_callV (as := [.int 3]) (st := [.int v21]) C X dX10_hasRoom_70 lnX10_151 myX7_imported viX7_imported ⟨by decide, by decide⟩ rfl rfl k8 (Nat.le_of_ble_eq_true rfl) (Nat.le_refl _) (Nat.le_refl _) (ctX7_imported e24 ?_)
        show pm_G g 73 [(6, .int y19), (5, .int y13), (0, .ref x0), (1, .ref x1), (2, .ref x2), (3, .int x3), (4, .int x4)] [.int v23, .int v21] h 0 0
        refine pm_isub C dX10_hasRoom_73 ?_
        obtain ⟨y25, e26, hf⟩ := pm_lt hf
        refine pm_topI e26 ?_
        refine pm_istore (lv' := [(7, .int y25), (6, .int y19), (5, .int y13), (0, .ref x0), (1, .ref x1), (2, .ref x2), (3, .int x3), (4, .int x4)]) C dX10_hasRoom_74 (pm_nl X (by decide)) rfl ?_
        refine pm_lconst (v := 0) C dX10_hasRoom_76 (by decide) ?_
        refine pm_lstore (lv' := [(8, .long 0), (7, .int y25), (6, .int y19), (5, .int y13), (0, .ref x0), (1, .ref x1), (2, .ref x2), (3, .int x3), (4, .int x4)]) C dX10_hasRoom_77 (pm_nl X (by decide)) rfl ?_
        refine pm_iconst (v := 0) C dX10_hasRoom_79 (by decide) ?_
        refine pm_istore (lv' := [(10, .int 0), (8, .long 0), (7, .int y25), (6, .int y19), (5, .int y13), (0, .ref x0), (1, .ref x1), (2, .ref x2), (3, .int x3), (4, .int x4)]) C dX10_hasRoom_80 (pm_nl X (by decide)) rfl ?_
        cases hf
        exact pm_sub [5, 6, 9, 4, 3, 2, 1, 0] rfl (ih.2 x0 x1 x4 y13 y19 y25 0 0 hi)
      · have hf := pm_ie hf c7
        refine pm_aload_n C dX10_hasRoom_16 rfl rfl ?_
        refine pm_iconst (v := 2) C dX10_hasRoom_17 (by decide) ?_
        refine pm_iload C dX10_hasRoom_18 rfl ?_
        refine pm_imul C dX10_hasRoom_20 ?_
        obtain ⟨v27, e28, hf⟩ := pm_bd hf
        refine pm_callS (as := [.ref x2, .int (2 * x5)]) (st := []) C X dX10_hasRoom_21 lnX10_104 myX12_item stX12_item ⟨by decide, by decide⟩ rfl rfl (Nat.le_of_ble_eq_true rfl) (Nat.le_refl _) (Nat.le_refl _) (ctX12_item e28 ?_)
        show pm_G g 24 [(0, .ref x0), (1, .ref x1), (2, .ref x2), (3, .int x3), (4, .int x4), (5, .int x5)] [.int v27] h 0 0
        refine pm_iconst (v := (-1)) C dX10_hasRoom_24 (by decide) ?_
        refine pm_icmp_ne (tgt := 31) C dX10_hasRoom_25 (by decide) (fun c29 => ?_) (fun c29 => ?_)
        · have hf := pm_ie hf c29
          obtain ⟨y30, e31, hf⟩ := pm_lt hf
          refine pm_iinc (v := y30) (lv' := [(5, .int y30), (0, .ref x0), (1, .ref x1), (2, .ref x2), (3, .int x3), (4, .int x4)]) C dX10_hasRoom_31 rfl ((congrArg (x5 + ·) (by decide : Int32.ofInt 1 = 1)).trans e31) (pm_nl X (by decide)) rfl ?_
          refine pm_goto (tgt := 10) C dX10_hasRoom_34 (by decide) ?_
          cases hf
          exact pm_sub [1, 2, 3, 4, 5, 0] rfl (ih.1 x0 x1 x2 x3 x4 y30 hi)
        · have hf := pm_it hf c29
          obtain ⟨y32, e33, hf⟩ := pm_lt hf
          refine pm_iinc (v := y32) (lv' := [(4, .int y32), (0, .ref x0), (1, .ref x1), (2, .ref x2), (3, .int x3), (5, .int x5)]) C dX10_hasRoom_28 rfl ((congrArg (x4 + ·) (by decide : Int32.ofInt 1 = 1)).trans e33) (pm_nl X (by decide)) rfl ?_
          obtain ⟨y34, e35, hf⟩ := pm_lt hf
          refine pm_iinc (v := y34) (lv' := [(5, .int y34), (4, .int y32), (0, .ref x0), (1, .ref x1), (2, .ref x2), (3, .int x3)]) C dX10_hasRoom_31 rfl ((congrArg (x5 + ·) (by decide : Int32.ofInt 1 = 1)).trans e35) (pm_nl X (by decide)) rfl ?_
          refine pm_goto (tgt := 10) C dX10_hasRoom_34 (by decide) ?_
          cases hf
          exact pm_sub [2, 3, 4, 5, 1, 0] rfl (ih.1 x0 x1 x2 x3 y32 y34 hi)
    refine fun x0 x1 x4 x5 x6 x7 x8 x10 hf => ?_
    obtain ⟨y, hf, hi⟩ := pm_iter_s hf
    have hf : tX10_hasRoom_82 h x0 x1 x4 x5 x6 x7 x8 x10 = some y := hf
    unfold tX10_hasRoom_82 at hf
    refine pm_iload C dX10_hasRoom_82 rfl ?_
    refine pm_aload_n C dX10_hasRoom_84 rfl rfl ?_
    obtain ⟨k36, hf⟩ := pm_if hf
    obtain ⟨v37, e38, hf⟩ := pm_bd hf
    refine pm_getR C dX10_hasRoom_85 flX10_154 rfl k36 e38 ?_
    obtain ⟨k39, hf⟩ := pm_if hf
    refine pm_alen (t := 2) C dX10_hasRoom_88 (by decide) k39 rfl ?_
    refine pm_icmp_ge (tgt := 115) C dX10_hasRoom_89 (by decide) (fun c40 => ?_) (fun c40 => ?_)
    · have hf := pm_it hf c40
      refine pm_aload_n C dX10_hasRoom_115 rfl rfl ?_
      obtain ⟨k41, hf⟩ := pm_if hf
      refine pm_getI C dX10_hasRoom_116 flX10_86 rfl k41 rfl ?_
      refine pm_bipush (v := 16) C dX10_hasRoom_119 (by decide) ?_
      refine pm_icmp_ge (tgt := 229) C dX10_hasRoom_121 (by decide) (fun c42 => ?_) (fun c42 => ?_)
      · have hf := pm_it hf c42
        refine pm_iconst (v := 0) C dX10_hasRoom_229 (by decide) ?_
        cases hf
        cases hi
        exact pm_zret C X dX10_hasRoom_230 rfl (by decide) (Nat.le_refl _) (Nat.le_refl _) q
      · have hf := pm_ie hf c42
        refine pm_iload C dX10_hasRoom_124 rfl ?_
        refine pm_sipush (v := 512) C dX10_hasRoom_126 (by decide) ?_
        refine pm_aload_n C dX10_hasRoom_129 rfl rfl ?_
        refine pm_getI C dX10_hasRoom_130 flX10_157 rfl k41 rfl ?_
        refine pm_isub C dX10_hasRoom_133 ?_
        refine pm_icmp_gt (tgt := 229) C dX10_hasRoom_134 (by decide) (fun c43 => ?_) (fun c43 => ?_)
        · have hf := pm_it hf c43
          refine pm_iconst (v := 0) C dX10_hasRoom_229 (by decide) ?_
          cases hf
          cases hi
          exact pm_zret C X dX10_hasRoom_230 rfl (by decide) (Nat.le_refl _) (Nat.le_refl _) q
        · have hf := pm_ie hf c43
          refine pm_iload C dX10_hasRoom_137 rfl ?_
          refine pm_bipush (v := 32) C dX10_hasRoom_139 (by decide) ?_
          refine pm_aload_n C dX10_hasRoom_141 rfl rfl ?_
          obtain ⟨v44, e45, hf⟩ := pm_bd hf
          refine pm_getR C dX10_hasRoom_142 flX10_12 rfl k41 e45 ?_
          obtain ⟨k46, hf⟩ := pm_if hf
          refine pm_getI C dX10_hasRoom_145 flX10_160 rfl k46 rfl ?_
          refine pm_isub C dX10_hasRoom_148 ?_
          refine pm_icmp_gt (tgt := 229) C dX10_hasRoom_149 (by decide) (fun c47 => ?_) (fun c47 => ?_)
          · have hf := pm_it hf c47
            refine pm_iconst (v := 0) C dX10_hasRoom_229 (by decide) ?_
            cases hf
            cases hi
            exact pm_zret C X dX10_hasRoom_230 rfl (by decide) (Nat.le_refl _) (Nat.le_refl _) q
          · have hf := pm_ie hf c47
            refine pm_aload_n C dX10_hasRoom_152 rfl rfl ?_
            refine pm_iconst (v := 1) C dX10_hasRoom_153 (by decide) ?_
            obtain ⟨v48, e49, hf⟩ := pm_bd hf
            refine pm_callS (as := [.ref x1, .int 1]) (st := []) C X dX10_hasRoom_154 lnX10_162 myX10_leastInAll stX10_leastInAll ⟨by decide, by decide⟩ rfl rfl (Nat.le_of_ble_eq_true rfl) (Nat.le_refl _) (Nat.le_refl _) (ctX10_leastInAll e49 ?_)
            show pm_G g 157 [(0, .ref x0), (1, .ref x1), (4, .int x4), (5, .int x5), (6, .int x6), (7, .int x7), (8, .long x8), (10, .int x10)] [.long v48] h 0 0
            refine pm_aload_n C dX10_hasRoom_157 rfl rfl ?_
            refine pm_getR C dX10_hasRoom_158 flX10_12 rfl k41 e45 ?_
            refine pm_getI C dX10_hasRoom_161 flX10_166 rfl k46 rfl ?_
            refine pm_i2l C dX10_hasRoom_164 ?_
            refine pm_lcmp C dX10_hasRoom_165 ?_
            refine pm_if_gt (tgt := 229) C dX10_hasRoom_166 (by decide) (fun c50 => ?_) (fun c50 => ?_)
            · have hf := pm_it hf ((pm_lg_gt _ _).mp c50)
              refine pm_iconst (v := 0) C dX10_hasRoom_229 (by decide) ?_
              cases hf
              cases hi
              exact pm_zret C X dX10_hasRoom_230 rfl (by decide) (Nat.le_refl _) (Nat.le_refl _) q
            · have hf := pm_ie hf ((fun z => c50 ((pm_lg_gt _ _).mpr z)))
              refine pm_iload C dX10_hasRoom_169 rfl ?_
              refine pm_bipush (v := 16) C dX10_hasRoom_171 (by decide) ?_
              refine pm_aload_n C dX10_hasRoom_173 rfl rfl ?_
              obtain ⟨v51, e52, hf⟩ := pm_bd hf
              refine pm_getR C dX10_hasRoom_174 flX10_21 rfl k41 e52 ?_
              obtain ⟨k53, hf⟩ := pm_if hf
              refine pm_getI C dX10_hasRoom_177 flX10_169 rfl k53 rfl ?_
              refine pm_isub C dX10_hasRoom_180 ?_
              refine pm_icmp_gt (tgt := 229) C dX10_hasRoom_181 (by decide) (fun c54 => ?_) (fun c54 => ?_)
              · have hf := pm_it hf c54
                refine pm_iconst (v := 0) C dX10_hasRoom_229 (by decide) ?_
                cases hf
                cases hi
                exact pm_zret C X dX10_hasRoom_230 rfl (by decide) (Nat.le_refl _) (Nat.le_refl _) q
              · have hf := pm_ie hf c54
                refine pm_aload_n C dX10_hasRoom_184 rfl rfl ?_
                refine pm_iconst (v := 2) C dX10_hasRoom_185 (by decide) ?_
                obtain ⟨v55, e56, hf⟩ := pm_bd hf
                refine pm_callS (as := [.ref x1, .int 2]) (st := []) C X dX10_hasRoom_186 lnX10_162 myX10_leastInAll stX10_leastInAll ⟨by decide, by decide⟩ rfl rfl (Nat.le_of_ble_eq_true rfl) (Nat.le_refl _) (Nat.le_refl _) (ctX10_leastInAll e56 ?_)
                show pm_G g 189 [(0, .ref x0), (1, .ref x1), (4, .int x4), (5, .int x5), (6, .int x6), (7, .int x7), (8, .long x8), (10, .int x10)] [.long v55] h 0 0
                refine pm_aload_n C dX10_hasRoom_189 rfl rfl ?_
                refine pm_getR C dX10_hasRoom_190 flX10_21 rfl k41 e52 ?_
                refine pm_getI C dX10_hasRoom_193 flX10_170 rfl k53 rfl ?_
                refine pm_i2l C dX10_hasRoom_196 ?_
                refine pm_lcmp C dX10_hasRoom_197 ?_
                refine pm_if_gt (tgt := 229) C dX10_hasRoom_198 (by decide) (fun c57 => ?_) (fun c57 => ?_)
                · have hf := pm_it hf ((pm_lg_gt _ _).mp c57)
                  refine pm_iconst (v := 0) C dX10_hasRoom_229 (by decide) ?_
                  cases hf
                  cases hi
                  exact pm_zret C X dX10_hasRoom_230 rfl (by decide) (Nat.le_refl _) (Nat.le_refl _) q
                · have hf := pm_ie hf ((fun z => c57 ((pm_lg_gt _ _).mpr z)))
                  refine pm_iload C dX10_hasRoom_201 rfl ?_
                  refine pm_sipush (v := 256) C dX10_hasRoom_203 (by decide) ?_
                  refine pm_aload_n C dX10_hasRoom_206 rfl rfl ?_
                  refine pm_getI C dX10_hasRoom_207 flX10_171 rfl k41 rfl ?_
                  refine pm_isub C dX10_hasRoom_210 ?_
                  refine pm_icmp_gt (tgt := 229) C dX10_hasRoom_211 (by decide) (fun c58 => ?_) (fun c58 => ?_)
                  · have hf := pm_it hf c58
                    refine pm_iconst (v := 0) C dX10_hasRoom_229 (by decide) ?_
                    cases hf
                    cases hi
                    exact pm_zret C X dX10_hasRoom_230 rfl (by decide) (Nat.le_refl _) (Nat.le_refl _) q
                  · have hf := pm_ie hf c58
                    refine pm_lload C dX10_hasRoom_214 rfl ?_
                    refine pm_aload_n C dX10_hasRoom_216 rfl rfl ?_
                    refine pm_getI C dX10_hasRoom_217 flX10_61 rfl k41 rfl ?_
                    refine pm_i2l C dX10_hasRoom_220 ?_
                    refine pm_lcmp C dX10_hasRoom_221 ?_
                    refine pm_if_gt (tgt := 229) C dX10_hasRoom_222 (by decide) (fun c59 => ?_) (fun c59 => ?_)
                    · have hf := pm_it hf ((pm_lg_gt _ _).mp c59)
                      refine pm_iconst (v := 0) C dX10_hasRoom_229 (by decide) ?_
                      cases hf
                      cases hi
                      exact pm_zret C X dX10_hasRoom_230 rfl (by decide) (Nat.le_refl _) (Nat.le_refl _) q
                    · have hf := pm_ie hf ((fun z => c59 ((pm_lg_gt _ _).mpr z)))
                      refine pm_iconst (v := 1) C dX10_hasRoom_225 (by decide) ?_
                      refine pm_goto (tgt := 230) C dX10_hasRoom_226 (by decide) ?_
                      cases hf
                      cases hi
                      exact pm_zret C X dX10_hasRoom_230 rfl (by decide) (Nat.le_refl _) (Nat.le_refl _) q
    · have hf := pm_ie hf c40
      refine pm_lload C dX10_hasRoom_92 rfl ?_
      refine pm_aload_n C dX10_hasRoom_94 rfl rfl ?_
      refine pm_getR C dX10_hasRoom_95 flX10_154 rfl k36 e38 ?_
      refine pm_iload C dX10_hasRoom_98 rfl ?_
      refine pm_iconst (v := 4) C dX10_hasRoom_100 (by decide) ?_
      refine pm_iadd C dX10_hasRoom_101 ?_
      obtain ⟨v60, e61, hf⟩ := pm_bd hf
      refine pm_callS (as := [.ref v37, .int (x10 + 4)]) (st := [.long x8]) C X dX10_hasRoom_102 lnX10_104 myX12_item stX12_item ⟨by decide, by decide⟩ rfl rfl (Nat.le_of_ble_eq_true rfl) (Nat.le_refl _) (Nat.le_refl _) (ctX12_item e61 ?_)
      show pm_G g 105 [(0, .ref x0), (1, .ref x1), (4, .int x4), (5, .int x5), (6, .int x6), (7, .int x7), (8, .long x8), (10, .int x10)] [.int v60, .long x8] h 0 0
      refine pm_i2l C dX10_hasRoom_105 ?_
      refine pm_ladd C dX10_hasRoom_106 ?_
      obtain ⟨y62, e63, hf⟩ := pm_lt hf
      refine pm_topL e63 ?_
      refine pm_lstore (lv' := [(8, .long y62), (0, .ref x0), (1, .ref x1), (4, .int x4), (5, .int x5), (6, .int x6), (7, .int x7), (10, .int x10)]) C dX10_hasRoom_107 (pm_nl X (by decide)) rfl ?_
      obtain ⟨y64, e65, hf⟩ := pm_lt hf
      refine pm_iinc (v := y64) (lv' := [(10, .int y64), (8, .long y62), (0, .ref x0), (1, .ref x1), (4, .int x4), (5, .int x5), (6, .int x6), (7, .int x7)]) C dX10_hasRoom_109 rfl ((congrArg (x10 + ·) (by decide : Int32.ofInt 7 = 7)).trans e65) (pm_nl X (by decide)) rfl ?_
      refine pm_goto (tgt := 82) C dX10_hasRoom_112 (by decide) ?_
      cases hf
      exact pm_sub [2, 3, 4, 5, 6, 7, 1, 0] rfl (ih.2 x0 x1 x4 x5 x6 x7 y62 y64 hi)
set_option maxHeartbeats 4000000 in
set_option maxRecDepth 100000 in
theorem ctX10_hasRoom {l : Launch} {G : pm_Gl} {h : pm_H} {a0 : Nat} {p1 : Nat} {p2 : Nat} {p3 : Int32} {r : Int32} {Qr : Option Value → pm_H → Prop} (hf : fX10_hasRoom h a0 p1 p2 p3 = some r) (q : Qr (some (.int r)) h) : pm_Ct l G mX10_hasRoom [.ref a0, .ref p1, .ref p2, .int p3] h 0 0 Qr := by
  refine pm_body pnX10 (Nat.le_of_ble_eq_true rfl) (fun g C X => ?_)
  have C : pm_C g cX10_hasRoom RX10 := C
  show pm_G g 0 [(0, .ref a0), (1, .ref p1), (2, .ref p2), (3, .int p3)] [] h 0 0
  unfold fX10_hasRoom at hf
  refine pm_aload_n C dX10_hasRoom_0 rfl rfl ?_
  obtain ⟨k1, hf⟩ := pm_if hf
  obtain ⟨v2, e3, hf⟩ := pm_bd hf
  refine pm_getR C dX10_hasRoom_1 flX10_144 rfl k1 e3 ?_
  obtain ⟨k4, hf⟩ := pm_if hf
  refine pm_alen (t := 6) C dX10_hasRoom_4 (by decide) k4 rfl ?_
  obtain ⟨y5, e6, hf⟩ := pm_lt hf
  refine pm_topI e6 ?_
  refine pm_istore (lv' := [(4, .int y5), (0, .ref a0), (1, .ref p1), (2, .ref p2), (3, .int p3)]) C dX10_hasRoom_5 (pm_nl X (by decide)) rfl ?_
  refine pm_iconst (v := 0) C dX10_hasRoom_7 (by decide) ?_
  refine pm_istore (lv' := [(5, .int 0), (4, .int y5), (0, .ref a0), (1, .ref p1), (2, .ref p2), (3, .int p3)]) C dX10_hasRoom_8 (pm_nl X (by decide)) rfl ?_
  obtain ⟨n, hn⟩ := pm_lim_iter hf
  exact pm_sub [2, 3, 4, 5, 1, 0] rfl ((lpX10_hasRoom C X q n).1 a0 p1 p2 p3 y5 0 hn)
theorem dX12_offer_0 : decode cX12_offer 0 = .ok (.aload_n 0, 1) := by decide +kernel
theorem dX12_offer_1 : decode cX12_offer 1 = .ok (.getfield 132, 3) := by decide +kernel
theorem dX12_offer_4 : decode cX12_offer 4 = .ok (.bipush 64, 2) := by decide +kernel
theorem dX12_offer_6 : decode cX12_offer 6 = .ok (.if_icmp .lt 5, 3) := by decide +kernel
theorem dX12_offer_9 : decode cX12_offer 9 = .ok (.iconst (-1), 1) := by decide +kernel
theorem dX12_offer_10 : decode cX12_offer 10 = .ok (.ireturn, 1) := by decide +kernel
theorem dX12_offer_11 : decode cX12_offer 11 = .ok (.iload_n 1, 1) := by decide +kernel
theorem dX12_offer_12 : decode cX12_offer 12 = .ok (.iconst (-1), 1) := by decide +kernel
theorem dX12_offer_13 : decode cX12_offer 13 = .ok (.if_icmp .ne 24, 3) := by decide +kernel
theorem dX12_offer_16 : decode cX12_offer 16 = .ok (.iload_n 2, 1) := by decide +kernel
theorem dX12_offer_17 : decode cX12_offer 17 = .ok (.ifCond .lt 9, 3) := by decide +kernel
theorem dX12_offer_20 : decode cX12_offer 20 = .ok (.iload_n 2, 1) := by decide +kernel
theorem dX12_offer_21 : decode cX12_offer 21 = .ok (.bipush 63, 2) := by decide +kernel
theorem dX12_offer_23 : decode cX12_offer 23 = .ok (.if_icmp .le 7, 3) := by decide +kernel
theorem dX12_offer_26 : decode cX12_offer 26 = .ok (.iconst (-1), 1) := by decide +kernel
theorem dX12_offer_27 : decode cX12_offer 27 = .ok (.goto 9, 3) := by decide +kernel
theorem dX12_offer_30 : decode cX12_offer 30 = .ok (.aload_n 0, 1) := by decide +kernel
theorem dX12_offer_31 : decode cX12_offer 31 = .ok (.iconst (-1), 1) := by decide +kernel
theorem dX12_offer_32 : decode cX12_offer 32 = .ok (.iload_n 2, 1) := by decide +kernel
theorem dX12_offer_33 : decode cX12_offer 33 = .ok (.invokevirtual 135, 3) := by decide +kernel
theorem dX12_offer_36 : decode cX12_offer 36 = .ok (.ireturn, 1) := by decide +kernel
theorem dX12_offer_37 : decode cX12_offer 37 = .ok (.aload_n 0, 1) := by decide +kernel
theorem dX12_offer_38 : decode cX12_offer 38 = .ok (.getfield 52, 3) := by decide +kernel
theorem dX12_offer_41 : decode cX12_offer 41 = .ok (.iload_n 1, 1) := by decide +kernel
theorem dX12_offer_42 : decode cX12_offer 42 = .ok (.invokevirtual 139, 3) := by decide +kernel
theorem dX12_offer_45 : decode cX12_offer 45 = .ok (.astore_n 3, 1) := by decide +kernel
theorem dX12_offer_46 : decode cX12_offer 46 = .ok (.aload_n 3, 1) := by decide +kernel
theorem dX12_offer_47 : decode cX12_offer 47 = .ok (.iload_n 2, 1) := by decide +kernel
theorem dX12_offer_48 : decode cX12_offer 48 = .ok (.invokevirtual 143, 3) := by decide +kernel
theorem dX12_offer_51 : decode cX12_offer 51 = .ok (.istore 4, 2) := by decide +kernel
theorem dX12_offer_53 : decode cX12_offer 53 = .ok (.iload 4, 2) := by decide +kernel
theorem dX12_offer_55 : decode cX12_offer 55 = .ok (.ifCond .ge 7, 3) := by decide +kernel
theorem dX12_offer_58 : decode cX12_offer 58 = .ok (.iconst (-1), 1) := by decide +kernel
theorem dX12_offer_59 : decode cX12_offer 59 = .ok (.goto 14, 3) := by decide +kernel
theorem dX12_offer_62 : decode cX12_offer 62 = .ok (.aload_n 0, 1) := by decide +kernel
theorem dX12_offer_63 : decode cX12_offer 63 = .ok (.iload 4, 2) := by decide +kernel
theorem dX12_offer_65 : decode cX12_offer 65 = .ok (.aload_n 3, 1) := by decide +kernel
theorem dX12_offer_66 : decode cX12_offer 66 = .ok (.iload_n 2, 1) := by decide +kernel
theorem dX12_offer_67 : decode cX12_offer 67 = .ok (.invokevirtual 149, 3) := by decide +kernel
theorem dX12_offer_70 : decode cX12_offer 70 = .ok (.invokevirtual 135, 3) := by decide +kernel
theorem dX12_offer_73 : decode cX12_offer 73 = .ok (.ireturn, 1) := by decide +kernel
def fX12_offer (h : pm_H) (a0 : Nat) (p1 : Int32) (p2 : Int32) : Option (Int32 × pm_H) := if pm_kd h a0 = 12 then if (pm_I h a0 13) < 64 then (if p1 = (-1) then (if p2 < 0 then (some (((-1), h))) else (if p2 ≤ 63 then ((fX12_offerOf h a0 (-1) p2).bind fun v19 => some ((v19.1, v19.2))) else (some (((-1), h))))) else ((pm_R h a0 10).bind fun v4 => if pm_kd h v4 = 10 then (fX10_instanceAt h v4 p1).bind fun v7 => if pm_kd h v7 = 4 then (fX4_exportKind h v7 p2).bind fun v10 => if 0 ≤ v10 then ((fX4_exportNumber h v7 p2).bind fun v13 => (fX12_offerOf h a0 v10 v13).bind fun v15 => some ((v15.1, v15.2))) else (some (((-1), h))) else none else none)) else (some (((-1), h))) else none
set_option maxHeartbeats 4000000 in
set_option maxRecDepth 100000 in
theorem ctX12_offer {l : Launch} {G : pm_Gl} {h : pm_H} {a0 : Nat} {p1 : Int32} {p2 : Int32} {r : (Int32 × pm_H)} {Qr : Option Value → pm_H → Prop} (hf : fX12_offer h a0 p1 p2 = some r) (q : Qr (some (.int r.1)) r.2) : pm_Ct l G mX12_offer [.ref a0, .int p1, .int p2] h 0 0 Qr := by
  refine pm_body pnX12 (Nat.le_of_ble_eq_true rfl) (fun g C X => ?_)
  have C : pm_C g cX12_offer RX12 := C
  show pm_G g 0 [(0, .ref a0), (1, .int p1), (2, .int p2)] [] h 0 0
  unfold fX12_offer at hf
  refine pm_aload_n C dX12_offer_0 rfl rfl ?_
  obtain ⟨k1, hf⟩ := pm_if hf
  refine pm_getI C dX12_offer_1 flX12_132 rfl k1 rfl ?_
  refine pm_bipush (v := 64) C dX12_offer_4 (by decide) ?_
  refine pm_icmp_lt (tgt := 11) C dX12_offer_6 (by decide) (fun c2 => ?_) (fun c2 => ?_)
  · have hf := pm_it hf c2
    refine pm_iload_n C dX12_offer_11 rfl rfl ?_
    refine pm_iconst (v := (-1)) C dX12_offer_12 (by decide) ?_
    refine pm_icmp_ne (tgt := 37) C dX12_offer_13 (by decide) (fun c3 => ?_) (fun c3 => ?_)
    · have hf := pm_ie hf c3
      refine pm_aload_n C dX12_offer_37 rfl rfl ?_
      obtain ⟨v4, e5, hf⟩ := pm_bd hf
      refine pm_getR C dX12_offer_38 flX12_52 rfl k1 e5 ?_
      refine pm_iload_n C dX12_offer_41 rfl rfl ?_
      obtain ⟨k6, hf⟩ := pm_if hf
      obtain ⟨v7, e8, hf⟩ := pm_bd hf
      refine pm_callV (as := [.int p1]) (st := []) C X dX12_offer_42 lnX12_139 myX10_instanceAt viX10_instanceAt ⟨by decide, by decide⟩ rfl rfl k6 (Nat.le_of_ble_eq_true rfl) (Nat.le_refl _) (Nat.le_refl _) (ctX10_instanceAt e8 ?_)
      show pm_G g 45 [(0, .ref a0), (1, .int p1), (2, .int p2)] [.ref v7] h 0 0
      refine pm_astore_n (lv' := [(3, .ref v7), (0, .ref a0), (1, .int p1), (2, .int p2)]) C dX12_offer_45 rfl (pm_nl X (by decide)) rfl ?_
      refine pm_aload_n C dX12_offer_46 rfl rfl ?_
      refine pm_iload_n C dX12_offer_47 rfl rfl ?_
      obtain ⟨k9, hf⟩ := pm_if hf
      obtain ⟨v10, e11, hf⟩ := pm_bd hf
      refine pm_callV (as := [.int p2]) (st := []) C X dX12_offer_48 lnX12_143 myX4_exportKind viX4_exportKind ⟨by decide, by decide⟩ rfl rfl k9 (Nat.le_of_ble_eq_true rfl) (Nat.le_refl _) (Nat.le_refl _) (ctX4_exportKind e11 ?_)
      show pm_G g 51 [(3, .ref v7), (0, .ref a0), (1, .int p1), (2, .int p2)] [.int v10] h 0 0
      refine pm_istore (lv' := [(4, .int v10), (3, .ref v7), (0, .ref a0), (1, .int p1), (2, .int p2)]) C dX12_offer_51 (pm_nl X (by decide)) rfl ?_
      refine pm_iload C dX12_offer_53 rfl ?_
      refine pm_if_ge (tgt := 62) C dX12_offer_55 (by decide) (fun c12 => ?_) (fun c12 => ?_)
      · have hf := pm_it hf c12
        refine pm_aload_n C dX12_offer_62 rfl rfl ?_
        refine pm_iload C dX12_offer_63 rfl ?_
        refine pm_aload_n C dX12_offer_65 rfl rfl ?_
        refine pm_iload_n C dX12_offer_66 rfl rfl ?_
        obtain ⟨v13, e14, hf⟩ := pm_bd hf
        refine pm_callV (as := [.int p2]) (st := [.int v10, .ref a0]) C X dX12_offer_67 lnX12_149 myX4_exportNumber viX4_exportNumber ⟨by decide, by decide⟩ rfl rfl k9 (Nat.le_of_ble_eq_true rfl) (Nat.le_refl _) (Nat.le_refl _) (ctX4_exportNumber e14 ?_)
        show pm_G g 70 [(4, .int v10), (3, .ref v7), (0, .ref a0), (1, .int p1), (2, .int p2)] [.int v13, .int v10, .ref a0] h 0 0
        obtain ⟨v15, e16, hf⟩ := pm_bd hf
        refine pm_callV (as := [.int v10, .int v13]) (st := []) C X dX12_offer_70 lnX12_135 myX12_offerOf viX12_offerOf ⟨by decide, by decide⟩ rfl rfl k1 (Nat.le_of_ble_eq_true rfl) (Nat.le_refl _) (Nat.le_refl _) (ctX12_offerOf e16 ?_)
        show pm_G g 73 [(4, .int v10), (3, .ref v7), (0, .ref a0), (1, .int p1), (2, .int p2)] [.int v15.1] v15.2 0 0
        cases hf
        exact pm_iret C X dX12_offer_73 rfl (Nat.le_refl _) (Nat.le_refl _) q
      · have hf := pm_ie hf c12
        refine pm_iconst (v := (-1)) C dX12_offer_58 (by decide) ?_
        refine pm_goto (tgt := 73) C dX12_offer_59 (by decide) ?_
        cases hf
        exact pm_iret C X dX12_offer_73 rfl (Nat.le_refl _) (Nat.le_refl _) q
    · have hf := pm_it hf c3
      refine pm_iload_n C dX12_offer_16 rfl rfl ?_
      refine pm_if_lt (tgt := 26) C dX12_offer_17 (by decide) (fun c17 => ?_) (fun c17 => ?_)
      · have hf := pm_it hf c17
        refine pm_iconst (v := (-1)) C dX12_offer_26 (by decide) ?_
        refine pm_goto (tgt := 36) C dX12_offer_27 (by decide) ?_
        cases hf
        exact pm_iret C X dX12_offer_36 rfl (Nat.le_refl _) (Nat.le_refl _) q
      · have hf := pm_ie hf c17
        refine pm_iload_n C dX12_offer_20 rfl rfl ?_
        refine pm_bipush (v := 63) C dX12_offer_21 (by decide) ?_
        refine pm_icmp_le (tgt := 30) C dX12_offer_23 (by decide) (fun c18 => ?_) (fun c18 => ?_)
        · have hf := pm_it hf c18
          refine pm_aload_n C dX12_offer_30 rfl rfl ?_
          refine pm_iconst (v := (-1)) C dX12_offer_31 (by decide) ?_
          refine pm_iload_n C dX12_offer_32 rfl rfl ?_
          obtain ⟨v19, e20, hf⟩ := pm_bd hf
          refine pm_callV (as := [.int (-1), .int p2]) (st := []) C X dX12_offer_33 lnX12_135 myX12_offerOf viX12_offerOf ⟨by decide, by decide⟩ rfl rfl k1 (Nat.le_of_ble_eq_true rfl) (Nat.le_refl _) (Nat.le_refl _) (ctX12_offerOf e20 ?_)
          show pm_G g 36 [(0, .ref a0), (1, .int p1), (2, .int p2)] [.int v19.1] v19.2 0 0
          cases hf
          exact pm_iret C X dX12_offer_36 rfl (Nat.le_refl _) (Nat.le_refl _) q
        · have hf := pm_ie hf c18
          refine pm_iconst (v := (-1)) C dX12_offer_26 (by decide) ?_
          refine pm_goto (tgt := 36) C dX12_offer_27 (by decide) ?_
          cases hf
          exact pm_iret C X dX12_offer_36 rfl (Nat.le_refl _) (Nat.le_refl _) q
  · have hf := pm_ie hf c2
    refine pm_iconst (v := (-1)) C dX12_offer_9 (by decide) ?_
    cases hf
    exact pm_iret C X dX12_offer_10 rfl (Nat.le_refl _) (Nat.le_refl _) q
theorem dX16_accesses1_0 : decode cX16_accesses1 0 = .ok (.aload_n 0, 1) := by decide +kernel
theorem dX16_accesses1_1 : decode cX16_accesses1 1 = .ok (.invokevirtual 603, 3) := by decide +kernel
theorem dX16_accesses1_4 : decode cX16_accesses1 4 = .ok (.lstore_n 2, 1) := by decide +kernel
theorem dX16_accesses1_5 : decode cX16_accesses1 5 = .ok (.aload_n 0, 1) := by decide +kernel
theorem dX16_accesses1_6 : decode cX16_accesses1 6 = .ok (.invokevirtual 603, 3) := by decide +kernel
theorem dX16_accesses1_9 : decode cX16_accesses1 9 = .ok (.lstore 4, 2) := by decide +kernel
theorem dX16_accesses1_11 : decode cX16_accesses1 11 = .ok (.iconst 1, 1) := by decide +kernel
theorem dX16_accesses1_12 : decode cX16_accesses1 12 = .ok (.iload_n 1, 1) := by decide +kernel
theorem dX16_accesses1_13 : decode cX16_accesses1 13 = .ok (.invokestatic 728, 3) := by decide +kernel
theorem dX16_accesses1_16 : decode cX16_accesses1 16 = .ok (.ishl, 1) := by decide +kernel
theorem dX16_accesses1_17 : decode cX16_accesses1 17 = .ok (.istore 6, 2) := by decide +kernel
theorem dX16_accesses1_19 : decode cX16_accesses1 19 = .ok (.aload_n 0, 1) := by decide +kernel
theorem dX16_accesses1_20 : decode cX16_accesses1 20 = .ok (.getfield 140, 3) := by decide +kernel
theorem dX16_accesses1_23 : decode cX16_accesses1 23 = .ok (.sipush 128, 3) := by decide +kernel
theorem dX16_accesses1_26 : decode cX16_accesses1 26 = .ok (.aload_n 0, 1) := by decide +kernel
theorem dX16_accesses1_27 : decode cX16_accesses1 27 = .ok (.getfield 1110, 3) := by decide +kernel
theorem dX16_accesses1_30 : decode cX16_accesses1 30 = .ok (.imul, 1) := by decide +kernel
theorem dX16_accesses1_31 : decode cX16_accesses1 31 = .ok (.iaload, 1) := by decide +kernel
theorem dX16_accesses1_32 : decode cX16_accesses1 32 = .ok (.istore 7, 2) := by decide +kernel
theorem dX16_accesses1_34 : decode cX16_accesses1 34 = .ok (.iload_n 1, 1) := by decide +kernel
theorem dX16_accesses1_35 : decode cX16_accesses1 35 = .ok (.bipush 53, 2) := by decide +kernel
theorem dX16_accesses1_37 : decode cX16_accesses1 37 = .ok (.if_icmp .le 10, 3) := by decide +kernel
theorem dX16_accesses1_40 : decode cX16_accesses1 40 = .ok (.aload_n 0, 1) := by decide +kernel
theorem dX16_accesses1_41 : decode cX16_accesses1 41 = .ok (.invokevirtual 1157, 3) := by decide +kernel
theorem dX16_accesses1_44 : decode cX16_accesses1 44 = .ok (.goto 4, 3) := by decide +kernel
theorem dX16_accesses1_47 : decode cX16_accesses1 47 = .ok (.lconst 0, 1) := by decide +kernel
theorem dX16_accesses1_48 : decode cX16_accesses1 48 = .ok (.lstore 8, 2) := by decide +kernel
theorem dX16_accesses1_50 : decode cX16_accesses1 50 = .ok (.aload_n 0, 1) := by decide +kernel
theorem dX16_accesses1_51 : decode cX16_accesses1 51 = .ok (.invokevirtual 1157, 3) := by decide +kernel
theorem dX16_accesses1_54 : decode cX16_accesses1 54 = .ok (.lload 4, 2) := by decide +kernel
theorem dX16_accesses1_56 : decode cX16_accesses1 56 = .ok (.ladd, 1) := by decide +kernel
theorem dX16_accesses1_57 : decode cX16_accesses1 57 = .ok (.lstore 10, 2) := by decide +kernel
theorem dX16_accesses1_59 : decode cX16_accesses1 59 = .ok (.lload 10, 2) := by decide +kernel
theorem dX16_accesses1_61 : decode cX16_accesses1 61 = .ok (.iload 6, 2) := by decide +kernel
theorem dX16_accesses1_63 : decode cX16_accesses1 63 = .ok (.i2l, 1) := by decide +kernel
theorem dX16_accesses1_64 : decode cX16_accesses1 64 = .ok (.ladd, 1) := by decide +kernel
theorem dX16_accesses1_65 : decode cX16_accesses1 65 = .ok (.ldc2_w 636, 3) := by decide +kernel
theorem dX16_accesses1_68 : decode cX16_accesses1 68 = .ok (.aload_n 0, 1) := by decide +kernel
theorem dX16_accesses1_69 : decode cX16_accesses1 69 = .ok (.getfield 109, 3) := by decide +kernel
theorem dX16_accesses1_72 : decode cX16_accesses1 72 = .ok (.iload 7, 2) := by decide +kernel
theorem dX16_accesses1_74 : decode cX16_accesses1 74 = .ok (.iaload, 1) := by decide +kernel
theorem dX16_accesses1_75 : decode cX16_accesses1 75 = .ok (.i2l, 1) := by decide +kernel
theorem dX16_accesses1_76 : decode cX16_accesses1 76 = .ok (.lmul, 1) := by decide +kernel
theorem dX16_accesses1_77 : decode cX16_accesses1 77 = .ok (.lcmp, 1) := by decide +kernel
theorem dX16_accesses1_78 : decode cX16_accesses1 78 = .ok (.ifCond .le 10, 3) := by decide +kernel
theorem dX16_accesses1_81 : decode cX16_accesses1 81 = .ok (.aload_n 0, 1) := by decide +kernel
theorem dX16_accesses1_82 : decode cX16_accesses1 82 = .ok (.iconst 5, 1) := by decide +kernel
theorem dX16_accesses1_83 : decode cX16_accesses1 83 = .ok (.iconst 1, 1) := by decide +kernel
theorem dX16_accesses1_84 : decode cX16_accesses1 84 = .ok (.invokevirtual 1163, 3) := by decide +kernel
theorem dX16_accesses1_87 : decode cX16_accesses1 87 = .ok (.return_, 1) := by decide +kernel
theorem dX16_accesses1_88 : decode cX16_accesses1 88 = .ok (.iload_n 1, 1) := by decide +kernel
theorem dX16_accesses1_89 : decode cX16_accesses1 89 = .ok (.bipush 53, 2) := by decide +kernel
theorem dX16_accesses1_91 : decode cX16_accesses1 91 = .ok (.if_icmp .le 42, 3) := by decide +kernel
theorem dX16_accesses1_94 : decode cX16_accesses1 94 = .ok (.iconst 0, 1) := by decide +kernel
theorem dX16_accesses1_95 : decode cX16_accesses1 95 = .ok (.istore 12, 2) := by decide +kernel
theorem dX16_accesses1_97 : decode cX16_accesses1 97 = .ok (.iload 12, 2) := by decide +kernel
theorem dX16_accesses1_99 : decode cX16_accesses1 99 = .ok (.iload 6, 2) := by decide +kernel
theorem dX16_accesses1_101 : decode cX16_accesses1 101 = .ok (.if_icmp .ge 31, 3) := by decide +kernel
theorem dX16_accesses1_104 : decode cX16_accesses1 104 = .ok (.aload_n 0, 1) := by decide +kernel
theorem dX16_accesses1_105 : decode cX16_accesses1 105 = .ok (.iload 7, 2) := by decide +kernel
theorem dX16_accesses1_107 : decode cX16_accesses1 107 = .ok (.lload 10, 2) := by decide +kernel
theorem dX16_accesses1_109 : decode cX16_accesses1 109 = .ok (.iload 12, 2) := by decide +kernel
theorem dX16_accesses1_111 : decode cX16_accesses1 111 = .ok (.i2l, 1) := by decide +kernel
theorem dX16_accesses1_112 : decode cX16_accesses1 112 = .ok (.ladd, 1) := by decide +kernel
theorem dX16_accesses1_113 : decode cX16_accesses1 113 = .ok (.lload 8, 2) := by decide +kernel
theorem dX16_accesses1_115 : decode cX16_accesses1 115 = .ok (.bipush 8, 2) := by decide +kernel
theorem dX16_accesses1_117 : decode cX16_accesses1 117 = .ok (.iload 12, 2) := by decide +kernel
theorem dX16_accesses1_119 : decode cX16_accesses1 119 = .ok (.imul, 1) := by decide +kernel
theorem dX16_accesses1_120 : decode cX16_accesses1 120 = .ok (.lushr, 1) := by decide +kernel
theorem dX16_accesses1_121 : decode cX16_accesses1 121 = .ok (.l2i, 1) := by decide +kernel
theorem dX16_accesses1_122 : decode cX16_accesses1 122 = .ok (.i2b, 1) := by decide +kernel
theorem dX16_accesses1_123 : decode cX16_accesses1 123 = .ok (.invokevirtual 1055, 3) := by decide +kernel
theorem dX16_accesses1_126 : decode cX16_accesses1 126 = .ok (.iinc 12 1, 3) := by decide +kernel
theorem dX16_accesses1_129 : decode cX16_accesses1 129 = .ok (.goto (-32), 3) := by decide +kernel
theorem dX16_accesses1_132 : decode cX16_accesses1 132 = .ok (.return_, 1) := by decide +kernel
theorem dX16_accesses1_133 : decode cX16_accesses1 133 = .ok (.iconst 0, 1) := by decide +kernel
theorem dX16_accesses1_134 : decode cX16_accesses1 134 = .ok (.istore 12, 2) := by decide +kernel
theorem dX16_accesses1_136 : decode cX16_accesses1 136 = .ok (.iload 12, 2) := by decide +kernel
theorem dX16_accesses1_138 : decode cX16_accesses1 138 = .ok (.iload 6, 2) := by decide +kernel
theorem dX16_accesses1_140 : decode cX16_accesses1 140 = .ok (.if_icmp .ge 32, 3) := by decide +kernel
theorem dX16_accesses1_143 : decode cX16_accesses1 143 = .ok (.lload 8, 2) := by decide +kernel
theorem dX16_accesses1_145 : decode cX16_accesses1 145 = .ok (.aload_n 0, 1) := by decide +kernel
theorem dX16_accesses1_146 : decode cX16_accesses1 146 = .ok (.iload 7, 2) := by decide +kernel
theorem dX16_accesses1_148 : decode cX16_accesses1 148 = .ok (.lload 10, 2) := by decide +kernel
theorem dX16_accesses1_150 : decode cX16_accesses1 150 = .ok (.iload 12, 2) := by decide +kernel
theorem dX16_accesses1_152 : decode cX16_accesses1 152 = .ok (.i2l, 1) := by decide +kernel
theorem dX16_accesses1_153 : decode cX16_accesses1 153 = .ok (.ladd, 1) := by decide +kernel
theorem dX16_accesses1_154 : decode cX16_accesses1 154 = .ok (.invokevirtual 1182, 3) := by decide +kernel
theorem dX16_accesses1_157 : decode cX16_accesses1 157 = .ok (.bipush 8, 2) := by decide +kernel
theorem dX16_accesses1_159 : decode cX16_accesses1 159 = .ok (.iload 12, 2) := by decide +kernel
theorem dX16_accesses1_161 : decode cX16_accesses1 161 = .ok (.imul, 1) := by decide +kernel
theorem dX16_accesses1_162 : decode cX16_accesses1 162 = .ok (.lshl, 1) := by decide +kernel
theorem dX16_accesses1_163 : decode cX16_accesses1 163 = .ok (.lor, 1) := by decide +kernel
theorem dX16_accesses1_164 : decode cX16_accesses1 164 = .ok (.lstore 8, 2) := by decide +kernel
theorem dX16_accesses1_166 : decode cX16_accesses1 166 = .ok (.iinc 12 1, 3) := by decide +kernel
theorem dX16_accesses1_169 : decode cX16_accesses1 169 = .ok (.goto (-33), 3) := by decide +kernel
theorem dX16_accesses1_172 : decode cX16_accesses1 172 = .ok (.bipush 64, 2) := by decide +kernel
theorem dX16_accesses1_174 : decode cX16_accesses1 174 = .ok (.bipush 8, 2) := by decide +kernel
theorem dX16_accesses1_176 : decode cX16_accesses1 176 = .ok (.iload 6, 2) := by decide +kernel
theorem dX16_accesses1_178 : decode cX16_accesses1 178 = .ok (.imul, 1) := by decide +kernel
theorem dX16_accesses1_179 : decode cX16_accesses1 179 = .ok (.isub, 1) := by decide +kernel
theorem dX16_accesses1_180 : decode cX16_accesses1 180 = .ok (.istore 12, 2) := by decide +kernel
theorem dX16_accesses1_182 : decode cX16_accesses1 182 = .ok (.iload_n 1, 1) := by decide +kernel
theorem dX16_accesses1_183 : decode cX16_accesses1 183 = .ok (.bipush 43, 2) := by decide +kernel
theorem dX16_accesses1_185 : decode cX16_accesses1 185 = .ok (.if_icmp .le 19, 3) := by decide +kernel
theorem dX16_accesses1_188 : decode cX16_accesses1 188 = .ok (.iload_n 1, 1) := by decide +kernel
theorem dX16_accesses1_189 : decode cX16_accesses1 189 = .ok (.iconst 2, 1) := by decide +kernel
theorem dX16_accesses1_190 : decode cX16_accesses1 190 = .ok (.irem, 1) := by decide +kernel
theorem dX16_accesses1_191 : decode cX16_accesses1 191 = .ok (.ifCond .ne 13, 3) := by decide +kernel
theorem dX16_accesses1_194 : decode cX16_accesses1 194 = .ok (.lload 8, 2) := by decide +kernel
theorem dX16_accesses1_196 : decode cX16_accesses1 196 = .ok (.iload 12, 2) := by decide +kernel
theorem dX16_accesses1_198 : decode cX16_accesses1 198 = .ok (.lshl, 1) := by decide +kernel
theorem dX16_accesses1_199 : decode cX16_accesses1 199 = .ok (.iload 12, 2) := by decide +kernel
theorem dX16_accesses1_201 : decode cX16_accesses1 201 = .ok (.lshr, 1) := by decide +kernel
theorem dX16_accesses1_202 : decode cX16_accesses1 202 = .ok (.lstore 8, 2) := by decide +kernel
theorem dX16_accesses1_204 : decode cX16_accesses1 204 = .ok (.aload_n 0, 1) := by decide +kernel
theorem dX16_accesses1_205 : decode cX16_accesses1 205 = .ok (.iload_n 1, 1) := by decide +kernel
theorem dX16_accesses1_206 : decode cX16_accesses1 206 = .ok (.invokestatic 793, 3) := by decide +kernel
theorem dX16_accesses1_209 : decode cX16_accesses1 209 = .ok (.lload 8, 2) := by decide +kernel
theorem dX16_accesses1_211 : decode cX16_accesses1 211 = .ok (.invokestatic 1083, 3) := by decide +kernel
theorem dX16_accesses1_214 : decode cX16_accesses1 214 = .ok (.invokevirtual 1136, 3) := by decide +kernel
theorem dX16_accesses1_217 : decode cX16_accesses1 217 = .ok (.return_, 1) := by decide +kernel
noncomputable def tX16_accesses1_136 (x0 : Nat) (x1 : Int32) (x6 : Int32) (x7 : Int32) (x8 : Int64) (x10 : Int64) (x12 : Int32) (h : pm_H) : Option (((Nat × Int32 × Int32 × Int32 × Int64 × Int64 × Int32 × pm_H) ⊕ (Nat × Int32 × Int32 × Int64 × Int64 × Int32 × pm_H)) ⊕ pm_H) := if x6 ≤ x12 then (pm_let (64 - (8 * x6)) fun y51 => if x1 ≤ 43 then (pm_let (fX16_accessType x1) fun v54 => pm_let (fX16_held v54 x8) fun v56 => if pm_kd h x0 = 16 then (fX16_push h x0 v56).bind fun v59 => some (.inr (v59)) else none) else (if (x1 - x1 / 2 * 2) = 0 then (pm_let ((x8 <<< (y51.toInt64 &&& 63)) >>> (y51.toInt64 &&& 63)) fun y69 => pm_let (fX16_accessType x1) fun v71 => pm_let (fX16_held v71 y69) fun v73 => if pm_kd h x0 = 16 then (fX16_push h x0 v73).bind fun v76 => some (.inr (v76)) else none) else (pm_let (fX16_accessType x1) fun v62 => pm_let (fX16_held v62 x8) fun v64 => if pm_kd h x0 = 16 then (fX16_push h x0 v64).bind fun v67 => some (.inr (v67)) else none))) else (if pm_kd h x0 = 16 then (fX16_gets h x0 x7 (x10 + x12.toInt64)).bind fun v79 => pm_let (x8 ||| (v79 <<< ((8 * x12).toInt64 &&& 63))) fun y81 => pm_let (x12 + 1) fun y83 => some (.inl (.inl ((x0, x1, x6, x7, y81, x10, y83, h)))) else none)
noncomputable def tX16_accesses1_97 (x0 : Nat) (x6 : Int32) (x7 : Int32) (x8 : Int64) (x10 : Int64) (x12 : Int32) (h : pm_H) : Option (((Nat × Int32 × Int32 × Int32 × Int64 × Int64 × Int32 × pm_H) ⊕ (Nat × Int32 × Int32 × Int64 × Int64 × Int32 × pm_H)) ⊕ pm_H) := if x6 ≤ x12 then (some (.inr (h))) else (if pm_kd h x0 = 16 then (fX16_sets h x0 x7 (x10 + x12.toInt64) ((((x8.toUInt64 >>> ((8 * x12).toInt64.toUInt64 &&& Int64.toUInt64 63)).toInt64).toInt32).toInt8.toInt32)).bind fun v87 => pm_let (x12 + 1) fun y89 => some (.inl (.inr ((x0, x6, x7, x8, x10, y89, v87)))) else none)
noncomputable def sX16_accesses1 : ((Nat × Int32 × Int32 × Int32 × Int64 × Int64 × Int32 × pm_H) ⊕ (Nat × Int32 × Int32 × Int64 × Int64 × Int32 × pm_H)) → Option (((Nat × Int32 × Int32 × Int32 × Int64 × Int64 × Int32 × pm_H) ⊕ (Nat × Int32 × Int32 × Int64 × Int64 × Int32 × pm_H)) ⊕ pm_H) := fun z => match z with
  | .inl (x0, x1, x6, x7, x8, x10, x12, h) => tX16_accesses1_136 x0 x1 x6 x7 x8 x10 x12 h
  | .inr (x0, x6, x7, x8, x10, x12, h) => tX16_accesses1_97 x0 x6 x7 x8 x10 x12 h
noncomputable def fX16_accesses1 (h : pm_H) (a0 : Nat) (p1 : Int32) : Option pm_H := if pm_kd h a0 = 16 then (fX16_word h a0).bind fun v2 => if pm_kd v2.2 a0 = 16 then (fX16_word v2.2 a0).bind fun v5 => pm_let (fX16_widthOf p1) fun v7 => pm_let ((1 : Int32) <<< (v7 &&& 31)) fun y9 => if pm_kd v5.2 a0 = 16 then (pm_R v5.2 a0 66).bind fun v12 => pm_let (128 * (pm_I v5.2 a0 95)) fun y14 => if pm_kd v5.2 v12 = 34 then if pm_in y14 (pm_ln v5.2 v12) then pm_let (pm_I v5.2 v12 y14.toNatClampNeg) fun y18 => if p1 ≤ 53 then ((fX16_pop v5.2 a0).bind fun v21 => pm_let (v21.1 + v5.1) fun y23 => if pm_kd v21.2 a0 = 16 then (pm_R v21.2 a0 54).bind fun v26 => if pm_kd v21.2 v26 = 34 then if pm_in y18 (pm_ln v21.2 v26) then if (y23 + y9.toInt64) ≤ (65536 * ((pm_I v21.2 v26 y18.toNatClampNeg).toInt64)) then (if p1 ≤ 53 then (pm_lim sX16_accesses1 (.inl ((a0, p1, y9, y18, 0, y23, 0, v21.2)))) else (pm_lim sX16_accesses1 (.inr ((a0, y9, y18, 0, y23, 0, v21.2))))) else ((fX16_endsBy v21.2 a0 5 1).bind fun v32 => some v32) else none else none else none) else ((fX16_pop v5.2 a0).bind fun v34 => if pm_kd v34.2 a0 = 16 then (fX16_pop v34.2 a0).bind fun v37 => pm_let (v37.1 + v5.1) fun y39 => if pm_kd v37.2 a0 = 16 then (pm_R v37.2 a0 54).bind fun v42 => if pm_kd v37.2 v42 = 34 then if pm_in y18 (pm_ln v37.2 v42) then if (y39 + y9.toInt64) ≤ (65536 * ((pm_I v37.2 v42 y18.toNatClampNeg).toInt64)) then (if p1 ≤ 53 then (pm_lim sX16_accesses1 (.inl ((a0, p1, y9, y18, v34.1, y39, 0, v37.2)))) else (pm_lim sX16_accesses1 (.inr ((a0, y9, y18, v34.1, y39, 0, v37.2))))) else ((fX16_endsBy v37.2 a0 5 1).bind fun v48 => some v48) else none else none else none else none) else none else none else none else none else none
set_option maxHeartbeats 4000000 in
set_option maxRecDepth 100000 in
theorem lpX16_accesses1 {g : pm_Gm} {l : Launch} {G : pm_Gl} {Qr : Option Value → pm_H → Prop} (C : pm_C g cX16_accesses1 RX16) (X : pm_X g l G mX16_accesses1 0 0 Qr) {r : pm_H} (q : Qr none r) : ∀ n : Nat, (∀ (x0 : Nat) (x1 : Int32) (x6 : Int32) (x7 : Int32) (x8 : Int64) (x10 : Int64) (x12 : Int32) (h : pm_H), pm_iter sX16_accesses1 n (.inl (x0, x1, x6, x7, x8, x10, x12, h)) = some r → pm_G g 136 [(0, .ref x0), (1, .int x1), (6, .int x6), (7, .int x7), (8, .long x8), (10, .long x10), (12, .int x12)] [] h 0 0) ∧ (∀ (x0 : Nat) (x6 : Int32) (x7 : Int32) (x8 : Int64) (x10 : Int64) (x12 : Int32) (h : pm_H), pm_iter sX16_accesses1 n (.inr (x0, x6, x7, x8, x10, x12, h)) = some r → pm_G g 97 [(0, .ref x0), (6, .int x6), (7, .int x7), (8, .long x8), (10, .long x10), (12, .int x12)] [] h 0 0) := by
  intro n
  induction n with
  | zero => exact ⟨fun _ _ _ _ _ _ _ _ hf => (by cases hf), fun _ _ _ _ _ _ _ hf => (by cases hf)⟩
  | succ n ih =>
    refine ⟨fun x0 x1 x6 x7 x8 x10 x12 h hf => ?_, ?_⟩
    · obtain ⟨y, hf, hi⟩ := pm_iter_s hf
      have hf : tX16_accesses1_136 x0 x1 x6 x7 x8 x10 x12 h = some y := hf
      unfold tX16_accesses1_136 at hf
      refine pm_iload C dX16_accesses1_136 rfl ?_
      refine pm_iload C dX16_accesses1_138 rfl ?_
      refine pm_icmp_ge (tgt := 172) C dX16_accesses1_140 (by decide) (fun c50 => ?_) (fun c50 => ?_)
      · have hf := pm_it hf c50
        refine pm_bipush (v := 64) C dX16_accesses1_172 (by decide) ?_
        refine pm_bipush (v := 8) C dX16_accesses1_174 (by decide) ?_
        refine pm_iload C dX16_accesses1_176 rfl ?_
        refine pm_imul C dX16_accesses1_178 ?_
        refine pm_isub C dX16_accesses1_179 ?_
        obtain ⟨y51, e52, hf⟩ := pm_lt hf
        refine pm_topI e52 ?_
        refine pm_istore (lv' := [(12, .int y51), (0, .ref x0), (1, .int x1), (6, .int x6), (7, .int x7), (8, .long x8), (10, .long x10)]) C dX16_accesses1_180 (pm_nl X (by decide)) rfl ?_
        refine pm_iload_n C dX16_accesses1_182 rfl rfl ?_
        refine pm_bipush (v := 43) C dX16_accesses1_183 (by decide) ?_
        refine pm_icmp_le (tgt := 204) C dX16_accesses1_185 (by decide) (fun c53 => ?_) (fun c53 => ?_)
        · have hf := pm_it hf c53
          refine pm_aload_n C dX16_accesses1_204 rfl rfl ?_
          refine pm_iload_n C dX16_accesses1_205 rfl rfl ?_
          obtain ⟨v54, e55, hf⟩ := pm_lt hf
          refine pm_callS (as := [.int x1]) (st := [.ref x0]) C X dX16_accesses1_206 lnX16_793 myX16_accessType stX16_accessType ⟨by decide, by decide⟩ rfl rfl (Nat.le_of_ble_eq_true rfl) (Nat.le_refl _) (Nat.le_refl _) (ctX16_accessType e55 ?_)
          show pm_G g 209 [(12, .int y51), (0, .ref x0), (1, .int x1), (6, .int x6), (7, .int x7), (8, .long x8), (10, .long x10)] [.int v54, .ref x0] h 0 0
          refine pm_lload C dX16_accesses1_209 rfl ?_
          obtain ⟨v56, e57, hf⟩ := pm_lt hf
          refine pm_callS (as := [.int v54, .long x8]) (st := [.ref x0]) C X dX16_accesses1_211 lnX16_1083 myX16_held stX16_held ⟨by decide, by decide⟩ rfl rfl (Nat.le_of_ble_eq_true rfl) (Nat.le_refl _) (Nat.le_refl _) (ctX16_held e57 ?_)
          show pm_G g 214 [(12, .int y51), (0, .ref x0), (1, .int x1), (6, .int x6), (7, .int x7), (8, .long x8), (10, .long x10)] [.long v56, .ref x0] h 0 0
          obtain ⟨k58, hf⟩ := pm_if hf
          obtain ⟨v59, e60, hf⟩ := pm_bd hf
          refine pm_callV (as := [.long v56]) (st := []) C X dX16_accesses1_214 lnX16_1136 myX16_push viX16_push ⟨by decide, by decide⟩ rfl rfl k58 (Nat.le_of_ble_eq_true rfl) (Nat.le_refl _) (Nat.le_refl _) (ctX16_push e60 ?_)
          show pm_G g 217 [(12, .int y51), (0, .ref x0), (1, .int x1), (6, .int x6), (7, .int x7), (8, .long x8), (10, .long x10)] [] v59 0 0
          cases hf
          cases hi
          exact pm_vret C X dX16_accesses1_217 rfl (Nat.le_refl _) (Nat.le_refl _) q
        · have hf := pm_ie hf c53
          refine pm_iload_n C dX16_accesses1_188 rfl rfl ?_
          refine pm_iconst (v := 2) C dX16_accesses1_189 (by decide) ?_
          refine pm_irem C dX16_accesses1_190 (by decide) ?_
          refine pm_if_ne (tgt := 204) C dX16_accesses1_191 (by decide) (fun c61 => ?_) (fun c61 => ?_)
          · have hf := pm_ie hf c61
            refine pm_aload_n C dX16_accesses1_204 rfl rfl ?_
            refine pm_iload_n C dX16_accesses1_205 rfl rfl ?_
            obtain ⟨v62, e63, hf⟩ := pm_lt hf
            refine pm_callS (as := [.int x1]) (st := [.ref x0]) C X dX16_accesses1_206 lnX16_793 myX16_accessType stX16_accessType ⟨by decide, by decide⟩ rfl rfl (Nat.le_of_ble_eq_true rfl) (Nat.le_refl _) (Nat.le_refl _) (ctX16_accessType e63 ?_)
            show pm_G g 209 [(12, .int y51), (0, .ref x0), (1, .int x1), (6, .int x6), (7, .int x7), (8, .long x8), (10, .long x10)] [.int v62, .ref x0] h 0 0
            refine pm_lload C dX16_accesses1_209 rfl ?_
            obtain ⟨v64, e65, hf⟩ := pm_lt hf
            refine pm_callS (as := [.int v62, .long x8]) (st := [.ref x0]) C X dX16_accesses1_211 lnX16_1083 myX16_held stX16_held ⟨by decide, by decide⟩ rfl rfl (Nat.le_of_ble_eq_true rfl) (Nat.le_refl _) (Nat.le_refl _) (ctX16_held e65 ?_)
            show pm_G g 214 [(12, .int y51), (0, .ref x0), (1, .int x1), (6, .int x6), (7, .int x7), (8, .long x8), (10, .long x10)] [.long v64, .ref x0] h 0 0
            obtain ⟨k66, hf⟩ := pm_if hf
            obtain ⟨v67, e68, hf⟩ := pm_bd hf
            refine pm_callV (as := [.long v64]) (st := []) C X dX16_accesses1_214 lnX16_1136 myX16_push viX16_push ⟨by decide, by decide⟩ rfl rfl k66 (Nat.le_of_ble_eq_true rfl) (Nat.le_refl _) (Nat.le_refl _) (ctX16_push e68 ?_)
            show pm_G g 217 [(12, .int y51), (0, .ref x0), (1, .int x1), (6, .int x6), (7, .int x7), (8, .long x8), (10, .long x10)] [] v67 0 0
            cases hf
            cases hi
            exact pm_vret C X dX16_accesses1_217 rfl (Nat.le_refl _) (Nat.le_refl _) q
          · have hf := pm_it hf c61
            refine pm_lload C dX16_accesses1_194 rfl ?_
            refine pm_iload C dX16_accesses1_196 rfl ?_
            refine pm_lshl C dX16_accesses1_198 ?_
            refine pm_iload C dX16_accesses1_199 rfl ?_
            refine pm_lshr C dX16_accesses1_201 ?_
            obtain ⟨y69, e70, hf⟩ := pm_lt hf
            refine pm_topL e70 ?_
            refine pm_lstore (lv' := [(8, .long y69), (12, .int y51), (0, .ref x0), (1, .int x1), (6, .int x6), (7, .int x7), (10, .long x10)]) C dX16_accesses1_202 (pm_nl X (by decide)) rfl ?_
            refine pm_aload_n C dX16_accesses1_204 rfl rfl ?_
            refine pm_iload_n C dX16_accesses1_205 rfl rfl ?_
            obtain ⟨v71, e72, hf⟩ := pm_lt hf
            refine pm_callS (as := [.int x1]) (st := [.ref x0]) C X dX16_accesses1_206 lnX16_793 myX16_accessType stX16_accessType ⟨by decide, by decide⟩ rfl rfl (Nat.le_of_ble_eq_true rfl) (Nat.le_refl _) (Nat.le_refl _) (ctX16_accessType e72 ?_)
            show pm_G g 209 [(8, .long y69), (12, .int y51), (0, .ref x0), (1, .int x1), (6, .int x6), (7, .int x7), (10, .long x10)] [.int v71, .ref x0] h 0 0
            refine pm_lload C dX16_accesses1_209 rfl ?_
            obtain ⟨v73, e74, hf⟩ := pm_lt hf
            refine pm_callS (as := [.int v71, .long y69]) (st := [.ref x0]) C X dX16_accesses1_211 lnX16_1083 myX16_held stX16_held ⟨by decide, by decide⟩ rfl rfl (Nat.le_of_ble_eq_true rfl) (Nat.le_refl _) (Nat.le_refl _) (ctX16_held e74 ?_)
            show pm_G g 214 [(8, .long y69), (12, .int y51), (0, .ref x0), (1, .int x1), (6, .int x6), (7, .int x7), (10, .long x10)] [.long v73, .ref x0] h 0 0
            obtain ⟨k75, hf⟩ := pm_if hf
            obtain ⟨v76, e77, hf⟩ := pm_bd hf
            refine pm_callV (as := [.long v73]) (st := []) C X dX16_accesses1_214 lnX16_1136 myX16_push viX16_push ⟨by decide, by decide⟩ rfl rfl k75 (Nat.le_of_ble_eq_true rfl) (Nat.le_refl _) (Nat.le_refl _) (ctX16_push e77 ?_)
            show pm_G g 217 [(8, .long y69), (12, .int y51), (0, .ref x0), (1, .int x1), (6, .int x6), (7, .int x7), (10, .long x10)] [] v76 0 0
            cases hf
            cases hi
            exact pm_vret C X dX16_accesses1_217 rfl (Nat.le_refl _) (Nat.le_refl _) q
      · have hf := pm_ie hf c50
        refine pm_lload C dX16_accesses1_143 rfl ?_
        refine pm_aload_n C dX16_accesses1_145 rfl rfl ?_
        refine pm_iload C dX16_accesses1_146 rfl ?_
        refine pm_lload C dX16_accesses1_148 rfl ?_
        refine pm_iload C dX16_accesses1_150 rfl ?_
        refine pm_i2l C dX16_accesses1_152 ?_
        refine pm_ladd C dX16_accesses1_153 ?_
        obtain ⟨k78, hf⟩ := pm_if hf
        obtain ⟨v79, e80, hf⟩ := pm_bd hf
        refine pm_callV (as := [.int x7, .long (x10 + x12.toInt64)]) (st := [.long x8]) C X dX16_accesses1_154 lnX16_1182 myX16_gets viX16_gets ⟨by decide, by decide⟩ rfl rfl k78 (Nat.le_of_ble_eq_true rfl) (Nat.le_refl _) (Nat.le_refl _) (ctX16_gets e80 ?_)
        show pm_G g 157 [(0, .ref x0), (1, .int x1), (6, .int x6), (7, .int x7), (8, .long x8), (10, .long x10), (12, .int x12)] [.long v79, .long x8] h 0 0
        refine pm_bipush (v := 8) C dX16_accesses1_157 (by decide) ?_
        refine pm_iload C dX16_accesses1_159 rfl ?_
        refine pm_imul C dX16_accesses1_161 ?_
        refine pm_lshl C dX16_accesses1_162 ?_
        refine pm_lor C dX16_accesses1_163 ?_
        obtain ⟨y81, e82, hf⟩ := pm_lt hf
        refine pm_topL e82 ?_
        refine pm_lstore (lv' := [(8, .long y81), (0, .ref x0), (1, .int x1), (6, .int x6), (7, .int x7), (10, .long x10), (12, .int x12)]) C dX16_accesses1_164 (pm_nl X (by decide)) rfl ?_
        obtain ⟨y83, e84, hf⟩ := pm_lt hf
        refine pm_iinc (v := y83) (lv' := [(12, .int y83), (8, .long y81), (0, .ref x0), (1, .int x1), (6, .int x6), (7, .int x7), (10, .long x10)]) C dX16_accesses1_166 rfl ((congrArg (x12 + ·) (by decide : Int32.ofInt 1 = 1)).trans e84) (pm_nl X (by decide)) rfl ?_
        refine pm_goto (tgt := 136) C dX16_accesses1_169 (by decide) ?_
        cases hf
        exact pm_sub [2, 3, 4, 5, 1, 6, 0] rfl (ih.1 x0 x1 x6 x7 y81 x10 y83 h hi)
    refine fun x0 x6 x7 x8 x10 x12 h hf => ?_
    obtain ⟨y, hf, hi⟩ := pm_iter_s hf
    have hf : tX16_accesses1_97 x0 x6 x7 x8 x10 x12 h = some y := hf
    unfold tX16_accesses1_97 at hf
    refine pm_iload C dX16_accesses1_97 rfl ?_
    refine pm_iload C dX16_accesses1_99 rfl ?_
    refine pm_icmp_ge (tgt := 132) C dX16_accesses1_101 (by decide) (fun c85 => ?_) (fun c85 => ?_)
    · have hf := pm_it hf c85
      cases hf
      cases hi
      exact pm_vret C X dX16_accesses1_132 rfl (Nat.le_refl _) (Nat.le_refl _) q
    · have hf := pm_ie hf c85
      refine pm_aload_n C dX16_accesses1_104 rfl rfl ?_
      refine pm_iload C dX16_accesses1_105 rfl ?_
      refine pm_lload C dX16_accesses1_107 rfl ?_
      refine pm_iload C dX16_accesses1_109 rfl ?_
      refine pm_i2l C dX16_accesses1_111 ?_
      refine pm_ladd C dX16_accesses1_112 ?_
      refine pm_lload C dX16_accesses1_113 rfl ?_
      refine pm_bipush (v := 8) C dX16_accesses1_115 (by decide) ?_
      refine pm_iload C dX16_accesses1_117 rfl ?_
      refine pm_imul C dX16_accesses1_119 ?_
      refine pm_lushr C dX16_accesses1_120 ?_
      refine pm_l2i C dX16_accesses1_121 ?_
      refine pm_i2b C dX16_accesses1_122 ?_
      obtain ⟨k86, hf⟩ := pm_if hf
      obtain ⟨v87, e88, hf⟩ := pm_bd hf
      refine pm_callV (as := [.int x7, .long (x10 + x12.toInt64), .int ((((x8.toUInt64 >>> ((8 * x12).toInt64.toUInt64 &&& Int64.toUInt64 63)).toInt64).toInt32).toInt8.toInt32)]) (st := []) C X dX16_accesses1_123 lnX16_1055 myX16_sets viX16_sets ⟨by decide, by decide⟩ rfl rfl k86 (Nat.le_of_ble_eq_true rfl) (Nat.le_refl _) (Nat.le_refl _) (ctX16_sets e88 ?_)
      show pm_G g 126 [(0, .ref x0), (6, .int x6), (7, .int x7), (8, .long x8), (10, .long x10), (12, .int x12)] [] v87 0 0
      obtain ⟨y89, e90, hf⟩ := pm_lt hf
      refine pm_iinc (v := y89) (lv' := [(12, .int y89), (0, .ref x0), (6, .int x6), (7, .int x7), (8, .long x8), (10, .long x10)]) C dX16_accesses1_126 rfl ((congrArg (x12 + ·) (by decide : Int32.ofInt 1 = 1)).trans e90) (pm_nl X (by decide)) rfl ?_
      refine pm_goto (tgt := 97) C dX16_accesses1_129 (by decide) ?_
      cases hf
      exact pm_sub [1, 2, 3, 4, 5, 0] rfl (ih.2 x0 x6 x7 x8 x10 y89 v87 hi)
set_option maxHeartbeats 4000000 in
set_option maxRecDepth 100000 in
theorem ctX16_accesses1 {l : Launch} {G : pm_Gl} {h : pm_H} {a0 : Nat} {p1 : Int32} {r : pm_H} {Qr : Option Value → pm_H → Prop} (hf : fX16_accesses1 h a0 p1 = some r) (q : Qr none r) : pm_Ct l G mX16_accesses1 [.ref a0, .int p1] h 0 0 Qr := by
  refine pm_body pnX16 (Nat.le_of_ble_eq_true rfl) (fun g C X => ?_)
  have C : pm_C g cX16_accesses1 RX16 := C
  show pm_G g 0 [(0, .ref a0), (1, .int p1)] [] h 0 0
  unfold fX16_accesses1 at hf
  refine pm_aload_n C dX16_accesses1_0 rfl rfl ?_
  obtain ⟨k1, hf⟩ := pm_if hf
  obtain ⟨v2, e3, hf⟩ := pm_bd hf
  refine pm_callV (as := []) (st := []) C X dX16_accesses1_1 lnX16_603 myX16_word viX16_word ⟨by decide, by decide⟩ rfl rfl k1 (Nat.le_of_ble_eq_true rfl) (Nat.le_refl _) (Nat.le_refl _) (ctX16_word e3 ?_)
  show pm_G g 4 [(0, .ref a0), (1, .int p1)] [.long v2.1] v2.2 0 0
  refine pm_lstore_n (lv' := [(2, .long v2.1), (0, .ref a0), (1, .int p1)]) C dX16_accesses1_4 rfl (pm_nl X (by decide)) rfl ?_
  refine pm_aload_n C dX16_accesses1_5 rfl rfl ?_
  obtain ⟨k4, hf⟩ := pm_if hf
  obtain ⟨v5, e6, hf⟩ := pm_bd hf
  refine pm_callV (as := []) (st := []) C X dX16_accesses1_6 lnX16_603 myX16_word viX16_word ⟨by decide, by decide⟩ rfl rfl k4 (Nat.le_of_ble_eq_true rfl) (Nat.le_refl _) (Nat.le_refl _) (ctX16_word e6 ?_)
  show pm_G g 9 [(2, .long v2.1), (0, .ref a0), (1, .int p1)] [.long v5.1] v5.2 0 0
  refine pm_lstore (lv' := [(4, .long v5.1), (2, .long v2.1), (0, .ref a0), (1, .int p1)]) C dX16_accesses1_9 (pm_nl X (by decide)) rfl ?_
  refine pm_iconst (v := 1) C dX16_accesses1_11 (by decide) ?_
  refine pm_iload_n C dX16_accesses1_12 rfl rfl ?_
  obtain ⟨v7, e8, hf⟩ := pm_lt hf
  refine pm_callS (as := [.int p1]) (st := [.int 1]) C X dX16_accesses1_13 lnX16_728 myX16_widthOf stX16_widthOf ⟨by decide, by decide⟩ rfl rfl (Nat.le_of_ble_eq_true rfl) (Nat.le_refl _) (Nat.le_refl _) (ctX16_widthOf e8 ?_)
  show pm_G g 16 [(4, .long v5.1), (2, .long v2.1), (0, .ref a0), (1, .int p1)] [.int v7, .int 1] v5.2 0 0
  refine pm_ishl C dX16_accesses1_16 ?_
  obtain ⟨y9, e10, hf⟩ := pm_lt hf
  refine pm_topI e10 ?_
  refine pm_istore (lv' := [(6, .int y9), (4, .long v5.1), (2, .long v2.1), (0, .ref a0), (1, .int p1)]) C dX16_accesses1_17 (pm_nl X (by decide)) rfl ?_
  refine pm_aload_n C dX16_accesses1_19 rfl rfl ?_
  obtain ⟨k11, hf⟩ := pm_if hf
  obtain ⟨v12, e13, hf⟩ := pm_bd hf
  refine pm_getR C dX16_accesses1_20 flX16_140 rfl k11 e13 ?_
  refine pm_sipush (v := 128) C dX16_accesses1_23 (by decide) ?_
  refine pm_aload_n C dX16_accesses1_26 rfl rfl ?_
  refine pm_getI C dX16_accesses1_27 flX16_1110 rfl k11 rfl ?_
  refine pm_imul C dX16_accesses1_30 ?_
  obtain ⟨y14, e15, hf⟩ := pm_lt hf
  refine pm_topI e15 ?_
  obtain ⟨k16, hf⟩ := pm_if hf
  obtain ⟨u17, hf⟩ := pm_if hf
  refine pm_iald C dX16_accesses1_31 k16 u17 rfl ?_
  obtain ⟨y18, e19, hf⟩ := pm_lt hf
  refine pm_topI e19 ?_
  refine pm_istore (lv' := [(7, .int y18), (6, .int y9), (4, .long v5.1), (2, .long v2.1), (0, .ref a0), (1, .int p1)]) C dX16_accesses1_32 (pm_nl X (by decide)) rfl ?_
  refine pm_iload_n C dX16_accesses1_34 rfl rfl ?_
  refine pm_bipush (v := 53) C dX16_accesses1_35 (by decide) ?_
  refine pm_icmp_le (tgt := 47) C dX16_accesses1_37 (by decide) (fun c20 => ?_) (fun c20 => ?_)
  · have hf := pm_it hf c20
    refine pm_lconst (v := 0) C dX16_accesses1_47 (by decide) ?_
    refine pm_lstore (lv' := [(8, .long 0), (7, .int y18), (6, .int y9), (4, .long v5.1), (2, .long v2.1), (0, .ref a0), (1, .int p1)]) C dX16_accesses1_48 (pm_nl X (by decide)) rfl ?_
    refine pm_aload_n C dX16_accesses1_50 rfl rfl ?_
    obtain ⟨v21, e22, hf⟩ := pm_bd hf
    refine pm_callV (as := []) (st := []) C X dX16_accesses1_51 lnX16_1157 myX16_pop viX16_pop ⟨by decide, by decide⟩ rfl rfl k11 (Nat.le_of_ble_eq_true rfl) (Nat.le_refl _) (Nat.le_refl _) (ctX16_pop e22 ?_)
    show pm_G g 54 [(8, .long 0), (7, .int y18), (6, .int y9), (4, .long v5.1), (2, .long v2.1), (0, .ref a0), (1, .int p1)] [.long v21.1] v21.2 0 0
    refine pm_lload C dX16_accesses1_54 rfl ?_
    refine pm_ladd C dX16_accesses1_56 ?_
    obtain ⟨y23, e24, hf⟩ := pm_lt hf
    refine pm_topL e24 ?_
    refine pm_lstore (lv' := [(10, .long y23), (8, .long 0), (7, .int y18), (6, .int y9), (4, .long v5.1), (2, .long v2.1), (0, .ref a0), (1, .int p1)]) C dX16_accesses1_57 (pm_nl X (by decide)) rfl ?_
    refine pm_lload C dX16_accesses1_59 rfl ?_
    refine pm_iload C dX16_accesses1_61 rfl ?_
    refine pm_i2l C dX16_accesses1_63 ?_
    refine pm_ladd C dX16_accesses1_64 ?_
    refine pm_ldc2 C dX16_accesses1_65 cnX16_636 ?_
    refine pm_aload_n C dX16_accesses1_68 rfl rfl ?_
    obtain ⟨k25, hf⟩ := pm_if hf
    obtain ⟨v26, e27, hf⟩ := pm_bd hf
    refine pm_getR C dX16_accesses1_69 flX16_109 rfl k25 e27 ?_
    refine pm_iload C dX16_accesses1_72 rfl ?_
    obtain ⟨k28, hf⟩ := pm_if hf
    obtain ⟨u29, hf⟩ := pm_if hf
    refine pm_iald C dX16_accesses1_74 k28 u29 rfl ?_
    refine pm_i2l C dX16_accesses1_75 ?_
    refine pm_lmul C dX16_accesses1_76 ?_
    refine pm_lcmp C dX16_accesses1_77 ?_
    refine pm_if_le (tgt := 88) C dX16_accesses1_78 (by decide) (fun c30 => ?_) (fun c30 => ?_)
    · have hf := pm_it hf ((pm_lg_le _ _).mp c30)
      refine pm_iload_n C dX16_accesses1_88 rfl rfl ?_
      refine pm_bipush (v := 53) C dX16_accesses1_89 (by decide) ?_
      refine pm_icmp_le (tgt := 133) C dX16_accesses1_91 (by decide) (fun c31 => ?_) (fun c31 => ?_)
      · have hf := pm_it hf c31
        refine pm_iconst (v := 0) C dX16_accesses1_133 (by decide) ?_
        refine pm_istore (lv' := [(12, .int 0), (10, .long y23), (8, .long 0), (7, .int y18), (6, .int y9), (4, .long v5.1), (2, .long v2.1), (0, .ref a0), (1, .int p1)]) C dX16_accesses1_134 (pm_nl X (by decide)) rfl ?_
        obtain ⟨n, hn⟩ := pm_lim_iter hf
        exact pm_sub [7, 8, 4, 3, 2, 1, 0] rfl ((lpX16_accesses1 C X q n).1 a0 p1 y9 y18 0 y23 0 v21.2 hn)
      · have hf := pm_ie hf c31
        refine pm_iconst (v := 0) C dX16_accesses1_94 (by decide) ?_
        refine pm_istore (lv' := [(12, .int 0), (10, .long y23), (8, .long 0), (7, .int y18), (6, .int y9), (4, .long v5.1), (2, .long v2.1), (0, .ref a0), (1, .int p1)]) C dX16_accesses1_95 (pm_nl X (by decide)) rfl ?_
        obtain ⟨n, hn⟩ := pm_lim_iter hf
        exact pm_sub [7, 4, 3, 2, 1, 0] rfl ((lpX16_accesses1 C X q n).2 a0 y9 y18 0 y23 0 v21.2 hn)
    · have hf := pm_ie hf ((fun z => c30 ((pm_lg_le _ _).mpr z)))
      refine pm_aload_n C dX16_accesses1_81 rfl rfl ?_
      refine pm_iconst (v := 5) C dX16_accesses1_82 (by decide) ?_
      refine pm_iconst (v := 1) C dX16_accesses1_83 (by decide) ?_
      obtain ⟨v32, e33, hf⟩ := pm_bd hf
      refine pm_callV (as := [.int 5, .int 1]) (st := []) C X dX16_accesses1_84 lnX16_1163 myX16_endsBy viX16_endsBy ⟨by decide, by decide⟩ rfl rfl k25 (Nat.le_of_ble_eq_true rfl) (Nat.le_refl _) (Nat.le_refl _) (ctX16_endsBy e33 ?_)
      show pm_G g 87 [(10, .long y23), (8, .long 0), (7, .int y18), (6, .int y9), (4, .long v5.1), (2, .long v2.1), (0, .ref a0), (1, .int p1)] [] v32 0 0
      cases hf
      exact pm_vret C X dX16_accesses1_87 rfl (Nat.le_refl _) (Nat.le_refl _) q
  · have hf := pm_ie hf c20
    refine pm_aload_n C dX16_accesses1_40 rfl rfl ?_
    obtain ⟨v34, e35, hf⟩ := pm_bd hf
    refine pm_callV (as := []) (st := []) C X dX16_accesses1_41 lnX16_1157 myX16_pop viX16_pop ⟨by decide, by decide⟩ rfl rfl k11 (Nat.le_of_ble_eq_true rfl) (Nat.le_refl _) (Nat.le_refl _) (ctX16_pop e35 ?_)
    show pm_G g 44 [(7, .int y18), (6, .int y9), (4, .long v5.1), (2, .long v2.1), (0, .ref a0), (1, .int p1)] [.long v34.1] v34.2 0 0
    refine pm_goto (tgt := 48) C dX16_accesses1_44 (by decide) ?_
    refine pm_lstore (lv' := [(8, .long v34.1), (7, .int y18), (6, .int y9), (4, .long v5.1), (2, .long v2.1), (0, .ref a0), (1, .int p1)]) C dX16_accesses1_48 (pm_nl X (by decide)) rfl ?_
    refine pm_aload_n C dX16_accesses1_50 rfl rfl ?_
    obtain ⟨k36, hf⟩ := pm_if hf
    obtain ⟨v37, e38, hf⟩ := pm_bd hf
    refine pm_callV (as := []) (st := []) C X dX16_accesses1_51 lnX16_1157 myX16_pop viX16_pop ⟨by decide, by decide⟩ rfl rfl k36 (Nat.le_of_ble_eq_true rfl) (Nat.le_refl _) (Nat.le_refl _) (ctX16_pop e38 ?_)
    show pm_G g 54 [(8, .long v34.1), (7, .int y18), (6, .int y9), (4, .long v5.1), (2, .long v2.1), (0, .ref a0), (1, .int p1)] [.long v37.1] v37.2 0 0
    refine pm_lload C dX16_accesses1_54 rfl ?_
    refine pm_ladd C dX16_accesses1_56 ?_
    obtain ⟨y39, e40, hf⟩ := pm_lt hf
    refine pm_topL e40 ?_
    refine pm_lstore (lv' := [(10, .long y39), (8, .long v34.1), (7, .int y18), (6, .int y9), (4, .long v5.1), (2, .long v2.1), (0, .ref a0), (1, .int p1)]) C dX16_accesses1_57 (pm_nl X (by decide)) rfl ?_
    refine pm_lload C dX16_accesses1_59 rfl ?_
    refine pm_iload C dX16_accesses1_61 rfl ?_
    refine pm_i2l C dX16_accesses1_63 ?_
    refine pm_ladd C dX16_accesses1_64 ?_
    refine pm_ldc2 C dX16_accesses1_65 cnX16_636 ?_
    refine pm_aload_n C dX16_accesses1_68 rfl rfl ?_
    obtain ⟨k41, hf⟩ := pm_if hf
    obtain ⟨v42, e43, hf⟩ := pm_bd hf
    refine pm_getR C dX16_accesses1_69 flX16_109 rfl k41 e43 ?_
    refine pm_iload C dX16_accesses1_72 rfl ?_
    obtain ⟨k44, hf⟩ := pm_if hf
    obtain ⟨u45, hf⟩ := pm_if hf
    refine pm_iald C dX16_accesses1_74 k44 u45 rfl ?_
    refine pm_i2l C dX16_accesses1_75 ?_
    refine pm_lmul C dX16_accesses1_76 ?_
    refine pm_lcmp C dX16_accesses1_77 ?_
    refine pm_if_le (tgt := 88) C dX16_accesses1_78 (by decide) (fun c46 => ?_) (fun c46 => ?_)
    · have hf := pm_it hf ((pm_lg_le _ _).mp c46)
      refine pm_iload_n C dX16_accesses1_88 rfl rfl ?_
      refine pm_bipush (v := 53) C dX16_accesses1_89 (by decide) ?_
      refine pm_icmp_le (tgt := 133) C dX16_accesses1_91 (by decide) (fun c47 => ?_) (fun c47 => ?_)
      · have hf := pm_it hf c47
        refine pm_iconst (v := 0) C dX16_accesses1_133 (by decide) ?_
        refine pm_istore (lv' := [(12, .int 0), (10, .long y39), (8, .long v34.1), (7, .int y18), (6, .int y9), (4, .long v5.1), (2, .long v2.1), (0, .ref a0), (1, .int p1)]) C dX16_accesses1_134 (pm_nl X (by decide)) rfl ?_
        obtain ⟨n, hn⟩ := pm_lim_iter hf
        exact pm_sub [7, 8, 4, 3, 2, 1, 0] rfl ((lpX16_accesses1 C X q n).1 a0 p1 y9 y18 v34.1 y39 0 v37.2 hn)
      · have hf := pm_ie hf c47
        refine pm_iconst (v := 0) C dX16_accesses1_94 (by decide) ?_
        refine pm_istore (lv' := [(12, .int 0), (10, .long y39), (8, .long v34.1), (7, .int y18), (6, .int y9), (4, .long v5.1), (2, .long v2.1), (0, .ref a0), (1, .int p1)]) C dX16_accesses1_95 (pm_nl X (by decide)) rfl ?_
        obtain ⟨n, hn⟩ := pm_lim_iter hf
        exact pm_sub [7, 4, 3, 2, 1, 0] rfl ((lpX16_accesses1 C X q n).2 a0 y9 y18 v34.1 y39 0 v37.2 hn)
    · have hf := pm_ie hf ((fun z => c46 ((pm_lg_le _ _).mpr z)))
      refine pm_aload_n C dX16_accesses1_81 rfl rfl ?_
      refine pm_iconst (v := 5) C dX16_accesses1_82 (by decide) ?_
      refine pm_iconst (v := 1) C dX16_accesses1_83 (by decide) ?_
      obtain ⟨v48, e49, hf⟩ := pm_bd hf
      refine pm_callV (as := [.int 5, .int 1]) (st := []) C X dX16_accesses1_84 lnX16_1163 myX16_endsBy viX16_endsBy ⟨by decide, by decide⟩ rfl rfl k41 (Nat.le_of_ble_eq_true rfl) (Nat.le_refl _) (Nat.le_refl _) (ctX16_endsBy e49 ?_)
      show pm_G g 87 [(10, .long y39), (8, .long v34.1), (7, .int y18), (6, .int y9), (4, .long v5.1), (2, .long v2.1), (0, .ref a0), (1, .int p1)] [] v48 0 0
      cases hf
      exact pm_vret C X dX16_accesses1_87 rfl (Nat.le_refl _) (Nat.le_refl _) q
