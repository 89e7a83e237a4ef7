theorem dX1_beginBlock_0 : decode cX1_beginBlock 0 = .ok (.aload_n 0, 1) := by decide +kernel
theorem dX1_beginBlock_1 : decode cX1_beginBlock 1 = .ok (.getfield 36, 3) := by decide +kernel
theorem dX1_beginBlock_4 : decode cX1_beginBlock 4 = .ok (.getfield 201, 3) := by decide +kernel
theorem dX1_beginBlock_7 : decode cX1_beginBlock 7 = .ok (.aload_n 0, 1) := by decide +kernel
theorem dX1_beginBlock_8 : decode cX1_beginBlock 8 = .ok (.getfield 40, 3) := by decide +kernel
theorem dX1_beginBlock_11 : decode cX1_beginBlock 11 = .ok (.getfield 116, 3) := by decide +kernel
theorem dX1_beginBlock_14 : decode cX1_beginBlock 14 = .ok (.arraylength, 1) := by decide +kernel
theorem dX1_beginBlock_15 : decode cX1_beginBlock 15 = .ok (.i2l, 1) := by decide +kernel
theorem dX1_beginBlock_16 : decode cX1_beginBlock 16 = .ok (.lcmp, 1) := by decide +kernel
theorem dX1_beginBlock_17 : decode cX1_beginBlock 17 = .ok (.ifCond .lt 10, 3) := by decide +kernel
theorem dX1_beginBlock_20 : decode cX1_beginBlock 20 = .ok (.aload_n 0, 1) := by decide +kernel
theorem dX1_beginBlock_21 : decode cX1_beginBlock 21 = .ok (.bipush 30, 2) := by decide +kernel
theorem dX1_beginBlock_23 : decode cX1_beginBlock 23 = .ok (.invokevirtual 198, 3) := by decide +kernel
theorem dX1_beginBlock_26 : decode cX1_beginBlock 26 = .ok (.return_, 1) := by decide +kernel
theorem dX1_beginBlock_27 : decode cX1_beginBlock 27 = .ok (.aload_n 0, 1) := by decide +kernel
theorem dX1_beginBlock_28 : decode cX1_beginBlock 28 = .ok (.getfield 36, 3) := by decide +kernel
theorem dX1_beginBlock_31 : decode cX1_beginBlock 31 = .ok (.getfield 201, 3) := by decide +kernel
theorem dX1_beginBlock_34 : decode cX1_beginBlock 34 = .ok (.l2i, 1) := by decide +kernel
theorem dX1_beginBlock_35 : decode cX1_beginBlock 35 = .ok (.istore_n 1, 1) := by decide +kernel
theorem dX1_beginBlock_36 : decode cX1_beginBlock 36 = .ok (.iload_n 1, 1) := by decide +kernel
theorem dX1_beginBlock_37 : decode cX1_beginBlock 37 = .ok (.ifCond .lt 14, 3) := by decide +kernel
theorem dX1_beginBlock_40 : decode cX1_beginBlock 40 = .ok (.aload_n 0, 1) := by decide +kernel
theorem dX1_beginBlock_41 : decode cX1_beginBlock 41 = .ok (.getfield 40, 3) := by decide +kernel
theorem dX1_beginBlock_44 : decode cX1_beginBlock 44 = .ok (.iload_n 1, 1) := by decide +kernel
theorem dX1_beginBlock_45 : decode cX1_beginBlock 45 = .ok (.invokevirtual 287, 3) := by decide +kernel
theorem dX1_beginBlock_48 : decode cX1_beginBlock 48 = .ok (.goto 17, 3) := by decide +kernel
theorem dX1_beginBlock_51 : decode cX1_beginBlock 51 = .ok (.aload_n 0, 1) := by decide +kernel
theorem dX1_beginBlock_52 : decode cX1_beginBlock 52 = .ok (.getfield 33, 3) := by decide +kernel
theorem dX1_beginBlock_55 : decode cX1_beginBlock 55 = .ok (.iconst 0, 1) := by decide +kernel
theorem dX1_beginBlock_56 : decode cX1_beginBlock 56 = .ok (.sipush 128, 3) := by decide +kernel
theorem dX1_beginBlock_59 : decode cX1_beginBlock 59 = .ok (.iload_n 1, 1) := by decide +kernel
theorem dX1_beginBlock_60 : decode cX1_beginBlock 60 = .ok (.iadd, 1) := by decide +kernel
theorem dX1_beginBlock_61 : decode cX1_beginBlock 61 = .ok (.invokestatic 236, 3) := by decide +kernel
theorem dX1_beginBlock_64 : decode cX1_beginBlock 64 = .ok (.aaload, 1) := by decide +kernel
theorem dX1_beginBlock_65 : decode cX1_beginBlock 65 = .ok (.astore_n 2, 1) := by decide +kernel
theorem dX1_beginBlock_66 : decode cX1_beginBlock 66 = .ok (.aload_n 0, 1) := by decide +kernel
theorem dX1_beginBlock_67 : decode cX1_beginBlock 67 = .ok (.getfield 36, 3) := by decide +kernel
theorem dX1_beginBlock_70 : decode cX1_beginBlock 70 = .ok (.getfield 191, 3) := by decide +kernel
theorem dX1_beginBlock_73 : decode cX1_beginBlock 73 = .ok (.iconst 4, 1) := by decide +kernel
theorem dX1_beginBlock_74 : decode cX1_beginBlock 74 = .ok (.if_icmp .ne 10, 3) := by decide +kernel
theorem dX1_beginBlock_77 : decode cX1_beginBlock 77 = .ok (.aload_n 0, 1) := by decide +kernel
theorem dX1_beginBlock_78 : decode cX1_beginBlock 78 = .ok (.bipush 127, 2) := by decide +kernel
theorem dX1_beginBlock_80 : decode cX1_beginBlock 80 = .ok (.invokevirtual 289, 3) := by decide +kernel
theorem dX1_beginBlock_83 : decode cX1_beginBlock 83 = .ok (.pop, 1) := by decide +kernel
theorem dX1_beginBlock_84 : decode cX1_beginBlock 84 = .ok (.aload_n 0, 1) := by decide +kernel
theorem dX1_beginBlock_85 : decode cX1_beginBlock 85 = .ok (.aload_n 2, 1) := by decide +kernel
theorem dX1_beginBlock_86 : decode cX1_beginBlock 86 = .ok (.invokevirtual 387, 3) := by decide +kernel
theorem dX1_beginBlock_89 : decode cX1_beginBlock 89 = .ok (.aload_n 0, 1) := by decide +kernel
theorem dX1_beginBlock_90 : decode cX1_beginBlock 90 = .ok (.getfield 220, 3) := by decide +kernel
theorem dX1_beginBlock_93 : decode cX1_beginBlock 93 = .ok (.sipush 200, 3) := by decide +kernel
theorem dX1_beginBlock_96 : decode cX1_beginBlock 96 = .ok (.if_icmp .lt 9, 3) := by decide +kernel
theorem dX1_beginBlock_99 : decode cX1_beginBlock 99 = .ok (.aload_n 0, 1) := by decide +kernel
theorem dX1_beginBlock_100 : decode cX1_beginBlock 100 = .ok (.bipush 40, 2) := by decide +kernel
theorem dX1_beginBlock_102 : decode cX1_beginBlock 102 = .ok (.invokevirtual 198, 3) := by decide +kernel
theorem dX1_beginBlock_105 : decode cX1_beginBlock 105 = .ok (.aload_n 0, 1) := by decide +kernel
theorem dX1_beginBlock_106 : decode cX1_beginBlock 106 = .ok (.getfield 53, 3) := by decide +kernel
theorem dX1_beginBlock_109 : decode cX1_beginBlock 109 = .ok (.ifCond .eq 4, 3) := by decide +kernel
theorem dX1_beginBlock_112 : decode cX1_beginBlock 112 = .ok (.return_, 1) := by decide +kernel
theorem dX1_beginBlock_113 : decode cX1_beginBlock 113 = .ok (.aload_n 0, 1) := by decide +kernel
theorem dX1_beginBlock_114 : decode cX1_beginBlock 114 = .ok (.invokevirtual 314, 3) := by decide +kernel
theorem dX1_beginBlock_117 : decode cX1_beginBlock 117 = .ok (.istore_n 3, 1) := by decide +kernel
theorem dX1_beginBlock_118 : decode cX1_beginBlock 118 = .ok (.aload_n 0, 1) := by decide +kernel
theorem dX1_beginBlock_119 : decode cX1_beginBlock 119 = .ok (.getfield 36, 3) := by decide +kernel
theorem dX1_beginBlock_122 : decode cX1_beginBlock 122 = .ok (.getfield 191, 3) := by decide +kernel
theorem dX1_beginBlock_125 : decode cX1_beginBlock 125 = .ok (.iconst 4, 1) := by decide +kernel
theorem dX1_beginBlock_126 : decode cX1_beginBlock 126 = .ok (.if_icmp .ne 14, 3) := by decide +kernel
theorem dX1_beginBlock_129 : decode cX1_beginBlock 129 = .ok (.aload_n 0, 1) := by decide +kernel
theorem dX1_beginBlock_130 : decode cX1_beginBlock 130 = .ok (.iconst 4, 1) := by decide +kernel
theorem dX1_beginBlock_131 : decode cX1_beginBlock 131 = .ok (.iconst (-1), 1) := by decide +kernel
theorem dX1_beginBlock_132 : decode cX1_beginBlock 132 = .ok (.iconst 0, 1) := by decide +kernel
theorem dX1_beginBlock_133 : decode cX1_beginBlock 133 = .ok (.iconst 0, 1) := by decide +kernel
theorem dX1_beginBlock_134 : decode cX1_beginBlock 134 = .ok (.invokevirtual 322, 3) := by decide +kernel
theorem dX1_beginBlock_137 : decode cX1_beginBlock 137 = .ok (.goto 10, 3) := by decide +kernel
theorem dX1_beginBlock_140 : decode cX1_beginBlock 140 = .ok (.aload_n 0, 1) := by decide +kernel
theorem dX1_beginBlock_141 : decode cX1_beginBlock 141 = .ok (.getfield 49, 3) := by decide +kernel
theorem dX1_beginBlock_144 : decode cX1_beginBlock 144 = .ok (.getfield 391, 3) := by decide +kernel
theorem dX1_beginBlock_147 : decode cX1_beginBlock 147 = .ok (.istore 4, 2) := by decide +kernel
theorem dX1_beginBlock_149 : decode cX1_beginBlock 149 = .ok (.aload_n 0, 1) := by decide +kernel
theorem dX1_beginBlock_150 : decode cX1_beginBlock 150 = .ok (.aload_n 0, 1) := by decide +kernel
theorem dX1_beginBlock_151 : decode cX1_beginBlock 151 = .ok (.getfield 36, 3) := by decide +kernel
theorem dX1_beginBlock_154 : decode cX1_beginBlock 154 = .ok (.getfield 191, 3) := by decide +kernel
theorem dX1_beginBlock_157 : decode cX1_beginBlock 157 = .ok (.iload_n 1, 1) := by decide +kernel
theorem dX1_beginBlock_158 : decode cX1_beginBlock 158 = .ok (.iload_n 3, 1) := by decide +kernel
theorem dX1_beginBlock_159 : decode cX1_beginBlock 159 = .ok (.iload 4, 2) := by decide +kernel
theorem dX1_beginBlock_161 : decode cX1_beginBlock 161 = .ok (.invokevirtual 223, 3) := by decide +kernel
theorem dX1_beginBlock_164 : decode cX1_beginBlock 164 = .ok (.aload_n 0, 1) := by decide +kernel
theorem dX1_beginBlock_165 : decode cX1_beginBlock 165 = .ok (.aload_n 2, 1) := by decide +kernel
theorem dX1_beginBlock_166 : decode cX1_beginBlock 166 = .ok (.invokevirtual 394, 3) := by decide +kernel
theorem dX1_beginBlock_169 : decode cX1_beginBlock 169 = .ok (.return_, 1) := by decide +kernel
noncomputable def fX1_beginBlock_b147 (h : pm_H) (x0 : Nat) (x1 : Int32) (x2 : Nat) (x3 : Int32) (s0 : Int32) : Option pm_H := if pm_kd h x0 = 1 then (pm_R h x0 3).bind fun v62 => if pm_kd h v62 = 9 then (fX1_openLabel h x0 (pm_I h v62 6) x1 x3 s0).bind fun v65 => if pm_kd v65 x0 = 1 then (fX1_putParameters v65 x0 x2).bind fun v69 => some v69 else none else none else none
noncomputable def fX1_beginBlock_b105 (h : pm_H) (x0 : Nat) (x1 : Int32) (x2 : Nat) : Option pm_H := if pm_kd h x0 = 1 then if (pm_I h x0 0) = 0 then ((fX1_isEmitting h x0).bind fun v49 => (pm_R h x0 3).bind fun v51 => if pm_kd h v51 = 9 then if (pm_I h v51 6) = 4 then ((fX1_emit h x0 4 (-1) 0 0).bind fun v58 => fX1_beginBlock_b147 v58.2 x0 x1 x2 v49 v58.1) else ((pm_R h x0 17).bind fun v55 => if pm_kd h v55 = 0 then fX1_beginBlock_b147 h x0 x1 x2 v49 (pm_I h v55 2) else none) else none) else (some h) else none
noncomputable def fX1_beginBlock_b84 (h : pm_H) (x0 : Nat) (x1 : Int32) (x2 : Nat) : Option pm_H := if pm_kd h x0 = 1 then (fX1_takeParameters h x0 x2).bind fun v39 => if pm_kd v39 x0 = 1 then if (pm_I v39 x0 10) < 200 then (fX1_beginBlock_b105 v39 x0 x1 x2) else ((fX1_fail v39 x0 40).bind fun v44 => fX1_beginBlock_b105 v44 x0 x1 x2) else none else none
noncomputable def fX1_beginBlock_b65 (h : pm_H) (x0 : Nat) (x1 : Int32) (s0 : Nat) : Option pm_H := if pm_kd h x0 = 1 then (pm_R h x0 3).bind fun v31 => if pm_kd h v31 = 9 then if (pm_I h v31 6) = 4 then ((fX1_take h x0 127).bind fun v35 => fX1_beginBlock_b84 v35.2 x0 x1 s0) else (fX1_beginBlock_b84 h x0 x1 s0) else none else none
noncomputable def fX1_beginBlock_b48 (h : pm_H) (x0 : Nat) (x1 : Int32) (s0 : Nat) : Option pm_H := fX1_beginBlock_b65 h x0 x1 s0
noncomputable def fX1_beginBlock_b0 (h : pm_H) (x0 : Nat) : Option pm_H := if pm_kd h x0 = 1 then (pm_R h x0 3).bind fun v2 => if pm_kd h v2 = 9 then (pm_R h x0 2).bind fun v5 => if pm_kd h v5 = 7 then (pm_R h v5 2).bind fun v8 => if pm_kd h v8 = 36 then if (pm_L h v2 8) < ((Int32.ofNat (pm_ln h v8)).toInt64) then (pm_let ((pm_L h v2 8).toInt32) fun y12 => if y12 < 0 then ((pm_R h x0 16).bind fun v15 => pm_let (128 + y12) fun y17 => pm_let (if (0 : Int32) < y17 then y17 else (0 : Int32)) fun y19 => if pm_kd h v15 = 36 then if pm_in y19 (pm_ln h v15) then (pm_R h v15 y19.toNatClampNeg).bind fun v23 => fX1_beginBlock_b65 h x0 y12 v23 else none else none) else ((fX7_shape h v5 y12).bind fun v25 => fX1_beginBlock_b48 v25.2 x0 y12 v25.1)) else ((fX1_fail h x0 30).bind fun v27 => some v27) else none else none else none else none
noncomputable def fX1_beginBlock (h : pm_H) (a0 : Nat) : Option pm_H := fX1_beginBlock_b0 h a0
set_option maxHeartbeats 4000000 in
set_option maxRecDepth 100000 in
theorem moX1_beginBlock_b147 {h : pm_H} {x0 : Nat} {x1 : Int32} {x2 : Nat} {x3 : Int32} {s0 : Int32} {r : pm_H} (hf : fX1_beginBlock_b147 h x0 x1 x2 x3 s0 = some r) : pm_Le h r := by
  unfold fX1_beginBlock_b147 at hf
  have K0 := pm_S3.rf h
  obtain ⟨k61, hf⟩ := pm_if hf
  obtain ⟨v62, e63, hf⟩ := pm_bd hf
  obtain ⟨k64, hf⟩ := pm_if hf
  obtain ⟨v65, e66, hf⟩ := pm_bd hf
  have K67 := pm_S3.trans (kpX1_openLabel e66) K0
  obtain ⟨k68, hf⟩ := pm_if hf
  obtain ⟨v69, e70, hf⟩ := pm_bd hf
  have K71 := pm_S3.trans (kpX1_putParameters e70) K67
  have hf := Option.some.inj hf
  subst hf
  exact pm_S3.le K71
set_option maxHeartbeats 4000000 in
set_option maxRecDepth 100000 in
theorem moX1_beginBlock_b105 {h : pm_H} {x0 : Nat} {x1 : Int32} {x2 : Nat} {r : pm_H} (hf : fX1_beginBlock_b105 h x0 x1 x2 = some r) : pm_Le h r := by
  unfold fX1_beginBlock_b105 at hf
  have K0 := pm_S3.rf h
  obtain ⟨k47, hf⟩ := pm_if hf
  by_cases c48 : (pm_I h x0 0) = 0
  · have hf := pm_it hf c48
    obtain ⟨v49, e50, hf⟩ := pm_bd hf
    obtain ⟨v51, e52, hf⟩ := pm_bd hf
    obtain ⟨k53, hf⟩ := pm_if hf
    by_cases c54 : (pm_I h v51 6) = 4
    · have hf := pm_it hf c54
      obtain ⟨v55, e56, hf⟩ := pm_bd hf
      have K57 := pm_S3.trans (kpX1_emit e56) K0
      exact (pm_S3.le K57).trans (moX1_beginBlock_b147 hf)
    · have hf := pm_ie hf c54
      obtain ⟨v58, e59, hf⟩ := pm_bd hf
      obtain ⟨k60, hf⟩ := pm_if hf
      exact (pm_S3.le K0).trans (moX1_beginBlock_b147 hf)
  · have hf := pm_ie hf c48
    have hf := Option.some.inj hf
    subst hf
    exact pm_S3.le K0
set_option maxHeartbeats 4000000 in
set_option maxRecDepth 100000 in
theorem moX1_beginBlock_b84 {h : pm_H} {x0 : Nat} {x1 : Int32} {x2 : Nat} {r : pm_H} (hf : fX1_beginBlock_b84 h x0 x1 x2 = some r) : pm_Le h r := by
  unfold fX1_beginBlock_b84 at hf
  have K0 := pm_S3.rf h
  obtain ⟨k38, hf⟩ := pm_if hf
  obtain ⟨v39, e40, hf⟩ := pm_bd hf
  have K41 := pm_S3.trans (kpX1_takeParameters e40) K0
  obtain ⟨k42, hf⟩ := pm_if hf
  by_cases c43 : (pm_I v39 x0 10) < 200
  · have hf := pm_it hf c43
    exact (pm_S3.le K41).trans (moX1_beginBlock_b105 hf)
  · have hf := pm_ie hf c43
    obtain ⟨v44, e45, hf⟩ := pm_bd hf
    have K46 := pm_S3.trans (kpX1_fail e45) K41
    exact (pm_S3.le K46).trans (moX1_beginBlock_b105 hf)
set_option maxHeartbeats 4000000 in
set_option maxRecDepth 100000 in
theorem moX1_beginBlock_b65 {h : pm_H} {x0 : Nat} {x1 : Int32} {s0 : Nat} {r : pm_H} (hf : fX1_beginBlock_b65 h x0 x1 s0 = some r) : pm_Le h r := by
  unfold fX1_beginBlock_b65 at hf
  have K0 := pm_S3.rf h
  obtain ⟨k30, hf⟩ := pm_if hf
  obtain ⟨v31, e32, hf⟩ := pm_bd hf
  obtain ⟨k33, hf⟩ := pm_if hf
  by_cases c34 : (pm_I h v31 6) = 4
  · have hf := pm_it hf c34
    obtain ⟨v35, e36, hf⟩ := pm_bd hf
    have K37 := pm_S3.trans (kpX1_take e36) K0
    exact (pm_S3.le K37).trans (moX1_beginBlock_b84 hf)
  · have hf := pm_ie hf c34
    exact (pm_S3.le K0).trans (moX1_beginBlock_b84 hf)
set_option maxHeartbeats 4000000 in
set_option maxRecDepth 100000 in
theorem moX1_beginBlock_b48 {h : pm_H} {x0 : Nat} {x1 : Int32} {s0 : Nat} {r : pm_H} (hf : fX1_beginBlock_b48 h x0 x1 s0 = some r) : pm_Le h r := by
  unfold fX1_beginBlock_b48 at hf
  have K0 := pm_S3.rf h
  exact (pm_S3.le K0).trans (moX1_beginBlock_b65 hf)
set_option maxHeartbeats 4000000 in
set_option maxRecDepth 100000 in
theorem moX1_beginBlock_b0 {h : pm_H} {x0 : Nat} {r : pm_H} (hf : fX1_beginBlock_b0 h x0 = some r) : pm_Le h r := by
  unfold fX1_beginBlock_b0 at hf
  have K0 := pm_S3.rf h
  obtain ⟨k1, hf⟩ := pm_if hf
  obtain ⟨v2, e3, hf⟩ := pm_bd hf
  obtain ⟨k4, hf⟩ := pm_if hf
  obtain ⟨v5, e6, hf⟩ := pm_bd hf
  obtain ⟨k7, hf⟩ := pm_if hf
  obtain ⟨v8, e9, hf⟩ := pm_bd hf
  obtain ⟨k10, hf⟩ := pm_if hf
  by_cases c11 : (pm_L h v2 8) < ((Int32.ofNat (pm_ln h v8)).toInt64)
  · have hf := pm_it hf c11
    obtain ⟨y12, e13, hf⟩ := pm_lt hf
    by_cases c14 : y12 < 0
    · have hf := pm_it hf c14
      obtain ⟨v15, e16, hf⟩ := pm_bd hf
      obtain ⟨y17, e18, hf⟩ := pm_lt hf
      obtain ⟨y19, e20, hf⟩ := pm_lt hf
      obtain ⟨k21, hf⟩ := pm_if hf
      obtain ⟨u22, hf⟩ := pm_if hf
      obtain ⟨v23, e24, hf⟩ := pm_bd hf
      exact (pm_S3.le K0).trans (moX1_beginBlock_b65 hf)
    · have hf := pm_ie hf c14
      obtain ⟨v25, e26, hf⟩ := pm_bd hf
      exact ((pm_S3.le K0).trans (moX7_shape e26)).trans (moX1_beginBlock_b48 hf)
  · have hf := pm_ie hf c11
    obtain ⟨v27, e28, hf⟩ := pm_bd hf
    have K29 := pm_S3.trans (kpX1_fail e28) K0
    have hf := Option.some.inj hf
    subst hf
    exact pm_S3.le K29
set_option maxHeartbeats 4000000 in
set_option maxRecDepth 100000 in
theorem moX1_beginBlock {h : pm_H} {a0 : Nat} {r : pm_H} (hf : fX1_beginBlock h a0 = some r) : pm_Le h r := by
  unfold fX1_beginBlock at hf
  have K0 := pm_S3.rf h
  exact (pm_S3.le K0).trans (moX1_beginBlock_b0 hf)
set_option maxHeartbeats 4000000 in
set_option maxRecDepth 100000 in
theorem bX1_beginBlock_147 {g : pm_Gm} {l : Launch} {G : pm_Gl} {Qr : Option Value → pm_H → Prop} (C : pm_C g cX1_beginBlock RX1) {h0 h : pm_H} {x0 : Nat} {x1 : Int32} {x2 : Nat} {x3 : Int32} {s0 : Int32} {r : pm_H} (X : pm_X g l G mX1_beginBlock (pm_sz r - pm_sz h0) (pm_us r - pm_us h0) Qr) (m0 : pm_Le h0 h) (hf : fX1_beginBlock_b147 h x0 x1 x2 x3 s0 = some r) (q : Qr none r) : pm_G g 147 [(0, .ref x0), (1, .int x1), (2, .ref x2), (3, .int x3)] [.int s0] h (pm_sz h - pm_sz h0) (pm_us h - pm_us h0) := by
  have le0 := moX1_beginBlock_b147 hf
  have kc1 := Nat.sub_le_sub_right le0.1 (pm_sz h0)
  have kc2 := Nat.sub_le_sub_right le0.2 (pm_us h0)
  have K0 := pm_S3.rf h
  unfold fX1_beginBlock_b147 at hf
  refine pm_istore (lv' := [(4, .int s0), (0, .ref x0), (1, .int x1), (2, .ref x2), (3, .int x3)]) C dX1_beginBlock_147 (pm_nl X (by decide)) rfl ?_
  refine pm_aload_n C dX1_beginBlock_149 rfl rfl ?_
  refine pm_aload_n C dX1_beginBlock_150 rfl rfl ?_
  obtain ⟨k61, hf⟩ := pm_if hf
  obtain ⟨v62, e63, hf⟩ := pm_bd hf
  refine pm_getR C dX1_beginBlock_151 flX1_36 rfl k61 e63 ?_
  obtain ⟨k64, hf⟩ := pm_if hf
  refine pm_getI C dX1_beginBlock_154 flX1_191 rfl k64 rfl ?_
  refine pm_iload_n C dX1_beginBlock_157 rfl rfl ?_
  refine pm_iload_n C dX1_beginBlock_158 rfl rfl ?_
  refine pm_iload C dX1_beginBlock_159 rfl ?_
  obtain ⟨v65, e66, hf⟩ := pm_bd hf
  refine pm_callV (as := [.int (pm_I h v62 6), .int x1, .int x3, .int s0]) (st := []) C X dX1_beginBlock_161 lnX1_223 myX1_openLabel viX1_openLabel ⟨by decide, by decide⟩ rfl rfl k61 (Nat.le_of_ble_eq_true rfl) kc1 kc2 (ctX1_openLabel e66 ?_)
  have K67 := pm_S3.trans (kpX1_openLabel e66) K0
  show pm_G g 164 [(4, .int s0), (0, .ref x0), (1, .int x1), (2, .ref x2), (3, .int x3)] [] v65 (pm_sz h - pm_sz h0) (pm_us h - pm_us h0)
  refine pm_aload_n C dX1_beginBlock_164 rfl rfl ?_
  refine pm_aload_n C dX1_beginBlock_165 rfl rfl ?_
  obtain ⟨k68, hf⟩ := pm_if hf
  obtain ⟨v69, e70, hf⟩ := pm_bd hf
  refine pm_callV (as := [.ref x2]) (st := []) C X dX1_beginBlock_166 lnX1_394 myX1_putParameters viX1_putParameters ⟨by decide, by decide⟩ rfl rfl k68 (Nat.le_of_ble_eq_true rfl) kc1 kc2 (ctX1_putParameters e70 ?_)
  have K71 := pm_S3.trans (kpX1_putParameters e70) K67
  show pm_G g 169 [(4, .int s0), (0, .ref x0), (1, .int x1), (2, .ref x2), (3, .int x3)] [] v69 (pm_sz h - pm_sz h0) (pm_us h - pm_us h0)
  have hf := Option.some.inj hf
  subst hf
  exact pm_vret C X dX1_beginBlock_169 rfl kc1 kc2 q
set_option maxHeartbeats 4000000 in
set_option maxRecDepth 100000 in
theorem bX1_beginBlock_105 {g : pm_Gm} {l : Launch} {G : pm_Gl} {Qr : Option Value → pm_H → Prop} (C : pm_C g cX1_beginBlock RX1) {h0 h : pm_H} {x0 : Nat} {x1 : Int32} {x2 : Nat} {r : pm_H} (X : pm_X g l G mX1_beginBlock (pm_sz r - pm_sz h0) (pm_us r - pm_us h0) Qr) (m0 : pm_Le h0 h) (hf : fX1_beginBlock_b105 h x0 x1 x2 = some r) (q : Qr none r) : pm_G g 105 [(0, .ref x0), (1, .int x1), (2, .ref x2)] [] h (pm_sz h - pm_sz h0) (pm_us h - pm_us h0) := by
  have le0 := moX1_beginBlock_b105 hf
  have kc1 := Nat.sub_le_sub_right le0.1 (pm_sz h0)
  have kc2 := Nat.sub_le_sub_right le0.2 (pm_us h0)
  have K0 := pm_S3.rf h
  unfold fX1_beginBlock_b105 at hf
  refine pm_aload_n C dX1_beginBlock_105 rfl rfl ?_
  obtain ⟨k47, hf⟩ := pm_if hf
  refine pm_getI C dX1_beginBlock_106 flX1_53 rfl k47 rfl ?_
  refine pm_if_eq (tgt := 113) C dX1_beginBlock_109 (by decide) (fun c48 => ?_) (fun c48 => ?_)
  · have hf := pm_it hf c48
    refine pm_aload_n C dX1_beginBlock_113 rfl rfl ?_
    obtain ⟨v49, e50, hf⟩ := pm_bd hf
    refine pm_callV (as := []) (st := []) C X dX1_beginBlock_114 lnX1_314 myX1_isEmitting viX1_isEmitting ⟨by decide, by decide⟩ rfl rfl k47 (Nat.le_of_ble_eq_true rfl) kc1 kc2 (ctX1_isEmitting e50 ?_)
    show pm_G g 117 [(0, .ref x0), (1, .int x1), (2, .ref x2)] [.int v49] h (pm_sz h - pm_sz h0) (pm_us h - pm_us h0)
    refine pm_istore_n (lv' := [(3, .int v49), (0, .ref x0), (1, .int x1), (2, .ref x2)]) C dX1_beginBlock_117 rfl (pm_nl X (by decide)) rfl ?_
    refine pm_aload_n C dX1_beginBlock_118 rfl rfl ?_
    obtain ⟨v51, e52, hf⟩ := pm_bd hf
    refine pm_getR C dX1_beginBlock_119 flX1_36 rfl k47 e52 ?_
    obtain ⟨k53, hf⟩ := pm_if hf
    refine pm_getI C dX1_beginBlock_122 flX1_191 rfl k53 rfl ?_
    refine pm_iconst (v := 4) C dX1_beginBlock_125 (by decide) ?_
    refine pm_icmp_ne (tgt := 140) C dX1_beginBlock_126 (by decide) (fun c54 => ?_) (fun c54 => ?_)
    · have hf := pm_ie hf c54
      refine pm_aload_n C dX1_beginBlock_140 rfl rfl ?_
      obtain ⟨v55, e56, hf⟩ := pm_bd hf
      refine pm_getR C dX1_beginBlock_141 flX1_49 rfl k47 e56 ?_
      obtain ⟨k57, hf⟩ := pm_if hf
      refine pm_getI C dX1_beginBlock_144 flX1_391 rfl k57 rfl ?_
      exact pa_join K0 (pm_sub [1, 2, 3, 0] rfl (bX1_beginBlock_147 C X (m0.trans (pm_S3.le K0)) hf q))
    · have hf := pm_it hf c54
      refine pm_aload_n C dX1_beginBlock_129 rfl rfl ?_
      refine pm_iconst (v := 4) C dX1_beginBlock_130 (by decide) ?_
      refine pm_iconst (v := (-1)) C dX1_beginBlock_131 (by decide) ?_
      refine pm_iconst (v := 0) C dX1_beginBlock_132 (by decide) ?_
      refine pm_iconst (v := 0) C dX1_beginBlock_133 (by decide) ?_
      obtain ⟨v58, e59, hf⟩ := pm_bd hf
      refine pm_callV (as := [.int 4, .int (-1), .int 0, .int 0]) (st := []) C X dX1_beginBlock_134 lnX1_322 myX1_emit viX1_emit ⟨by decide, by decide⟩ rfl rfl k47 (Nat.le_of_ble_eq_true rfl) kc1 kc2 (ctX1_emit e59 ?_)
      have K60 := pm_S3.trans (kpX1_emit e59) K0
      show pm_G g 137 [(3, .int v49), (0, .ref x0), (1, .int x1), (2, .ref x2)] [.int v58.1] v58.2 (pm_sz h - pm_sz h0) (pm_us h - pm_us h0)
      refine pm_goto (tgt := 147) C dX1_beginBlock_137 (by decide) ?_
      exact pa_join K60 (pm_sub [1, 2, 3, 0] rfl (bX1_beginBlock_147 C X (m0.trans (pm_S3.le K60)) hf q))
  · have hf := pm_ie hf c48
    have hf := Option.some.inj hf
    subst hf
    exact pm_vret C X dX1_beginBlock_112 rfl kc1 kc2 q
set_option maxHeartbeats 4000000 in
set_option maxRecDepth 100000 in
theorem bX1_beginBlock_84 {g : pm_Gm} {l : Launch} {G : pm_Gl} {Qr : Option Value → pm_H → Prop} (C : pm_C g cX1_beginBlock RX1) {h0 h : pm_H} {x0 : Nat} {x1 : Int32} {x2 : Nat} {r : pm_H} (X : pm_X g l G mX1_beginBlock (pm_sz r - pm_sz h0) (pm_us r - pm_us h0) Qr) (m0 : pm_Le h0 h) (hf : fX1_beginBlock_b84 h x0 x1 x2 = some r) (q : Qr none r) : pm_G g 84 [(0, .ref x0), (1, .int x1), (2, .ref x2)] [] h (pm_sz h - pm_sz h0) (pm_us h - pm_us h0) := by
  have le0 := moX1_beginBlock_b84 hf
  have kc1 := Nat.sub_le_sub_right le0.1 (pm_sz h0)
  have kc2 := Nat.sub_le_sub_right le0.2 (pm_us h0)
  have K0 := pm_S3.rf h
  unfold fX1_beginBlock_b84 at hf
  refine pm_aload_n C dX1_beginBlock_84 rfl rfl ?_
  refine pm_aload_n C dX1_beginBlock_85 rfl rfl ?_
  obtain ⟨k38, hf⟩ := pm_if hf
  obtain ⟨v39, e40, hf⟩ := pm_bd hf
  refine pm_callV (as := [.ref x2]) (st := []) C X dX1_beginBlock_86 lnX1_387 myX1_takeParameters viX1_takeParameters ⟨by decide, by decide⟩ rfl rfl k38 (Nat.le_of_ble_eq_true rfl) kc1 kc2 (ctX1_takeParameters e40 ?_)
  have K41 := pm_S3.trans (kpX1_takeParameters e40) K0
  show pm_G g 89 [(0, .ref x0), (1, .int x1), (2, .ref x2)] [] v39 (pm_sz h - pm_sz h0) (pm_us h - pm_us h0)
  refine pm_aload_n C dX1_beginBlock_89 rfl rfl ?_
  obtain ⟨k42, hf⟩ := pm_if hf
  refine pm_getI C dX1_beginBlock_90 flX1_220 rfl k42 rfl ?_
  refine pm_sipush (v := 200) C dX1_beginBlock_93 (by decide) ?_
  refine pm_icmp_lt (tgt := 105) C dX1_beginBlock_96 (by decide) (fun c43 => ?_) (fun c43 => ?_)
  · have hf := pm_it hf c43
    exact pa_join K41 (pm_sub [0, 1, 2] rfl (bX1_beginBlock_105 C X (m0.trans (pm_S3.le K41)) hf q))
  · have hf := pm_ie hf c43
    refine pm_aload_n C dX1_beginBlock_99 rfl rfl ?_
    refine pm_bipush (v := 40) C dX1_beginBlock_100 (by decide) ?_
    obtain ⟨v44, e45, hf⟩ := pm_bd hf
    refine pm_callV (as := [.int 40]) (st := []) C X dX1_beginBlock_102 lnX1_198 myX1_fail viX1_fail ⟨by decide, by decide⟩ rfl rfl k42 (Nat.le_of_ble_eq_true rfl) kc1 kc2 (ctX1_fail e45 ?_)
    have K46 := pm_S3.trans (kpX1_fail e45) K41
    show pm_G g 105 [(0, .ref x0), (1, .int x1), (2, .ref x2)] [] v44 (pm_sz h - pm_sz h0) (pm_us h - pm_us h0)
    exact pa_join K46 (pm_sub [0, 1, 2] rfl (bX1_beginBlock_105 C X (m0.trans (pm_S3.le K46)) hf q))
set_option maxHeartbeats 4000000 in
set_option maxRecDepth 100000 in
theorem bX1_beginBlock_65 {g : pm_Gm} {l : Launch} {G : pm_Gl} {Qr : Option Value → pm_H → Prop} (C : pm_C g cX1_beginBlock RX1) {h0 h : pm_H} {x0 : Nat} {x1 : Int32} {s0 : Nat} {r : pm_H} (X : pm_X g l G mX1_beginBlock (pm_sz r - pm_sz h0) (pm_us r - pm_us h0) Qr) (m0 : pm_Le h0 h) (hf : fX1_beginBlock_b65 h x0 x1 s0 = some r) (q : Qr none r) : pm_G g 65 [(0, .ref x0), (1, .int x1)] [.ref s0] h (pm_sz h - pm_sz h0) (pm_us h - pm_us h0) := by
  have le0 := moX1_beginBlock_b65 hf
  have kc1 := Nat.sub_le_sub_right le0.1 (pm_sz h0)
  have kc2 := Nat.sub_le_sub_right le0.2 (pm_us h0)
  have K0 := pm_S3.rf h
  unfold fX1_beginBlock_b65 at hf
  refine pm_astore_n (lv' := [(2, .ref s0), (0, .ref x0), (1, .int x1)]) C dX1_beginBlock_65 rfl (pm_nl X (by decide)) rfl ?_
  refine pm_aload_n C dX1_beginBlock_66 rfl rfl ?_
  obtain ⟨k30, hf⟩ := pm_if hf
  obtain ⟨v31, e32, hf⟩ := pm_bd hf
  refine pm_getR C dX1_beginBlock_67 flX1_36 rfl k30 e32 ?_
  obtain ⟨k33, hf⟩ := pm_if hf
  refine pm_getI C dX1_beginBlock_70 flX1_191 rfl k33 rfl ?_
  refine pm_iconst (v := 4) C dX1_beginBlock_73 (by decide) ?_
  refine pm_icmp_ne (tgt := 84) C dX1_beginBlock_74 (by decide) (fun c34 => ?_) (fun c34 => ?_)
  · have hf := pm_ie hf c34
    exact pa_join K0 (pm_sub [1, 2, 0] rfl (bX1_beginBlock_84 C X (m0.trans (pm_S3.le K0)) hf q))
  · have hf := pm_it hf c34
    refine pm_aload_n C dX1_beginBlock_77 rfl rfl ?_
    refine pm_bipush (v := 127) C dX1_beginBlock_78 (by decide) ?_
    obtain ⟨v35, e36, hf⟩ := pm_bd hf
    refine pm_callV (as := [.int 127]) (st := []) C X dX1_beginBlock_80 lnX1_289 myX1_take viX1_take ⟨by decide, by decide⟩ rfl rfl k30 (Nat.le_of_ble_eq_true rfl) kc1 kc2 (ctX1_take e36 ?_)
    have K37 := pm_S3.trans (kpX1_take e36) K0
    show pm_G g 83 [(2, .ref s0), (0, .ref x0), (1, .int x1)] [.int v35.1] v35.2 (pm_sz h - pm_sz h0) (pm_us h - pm_us h0)
    refine pm_pop C dX1_beginBlock_83 rfl ?_
    exact pa_join K37 (pm_sub [1, 2, 0] rfl (bX1_beginBlock_84 C X (m0.trans (pm_S3.le K37)) hf q))
set_option maxHeartbeats 4000000 in
set_option maxRecDepth 100000 in
theorem bX1_beginBlock_48 {g : pm_Gm} {l : Launch} {G : pm_Gl} {Qr : Option Value → pm_H → Prop} (C : pm_C g cX1_beginBlock RX1) {h0 h : pm_H} {x0 : Nat} {x1 : Int32} {s0 : Nat} {r : pm_H} (X : pm_X g l G mX1_beginBlock (pm_sz r - pm_sz h0) (pm_us r - pm_us h0) Qr) (m0 : pm_Le h0 h) (hf : fX1_beginBlock_b48 h x0 x1 s0 = some r) (q : Qr none r) : pm_G g 48 [(0, .ref x0), (1, .int x1)] [.ref s0] h (pm_sz h - pm_sz h0) (pm_us h - pm_us h0) := by
  have le0 := moX1_beginBlock_b48 hf
  have kc1 := Nat.sub_le_sub_right le0.1 (pm_sz h0)
  have kc2 := Nat.sub_le_sub_right le0.2 (pm_us h0)
  have K0 := pm_S3.rf h
  unfold fX1_beginBlock_b48 at hf
  refine pm_goto (tgt := 65) C dX1_beginBlock_48 (by decide) ?_
  exact pa_join K0 (pm_sub [0, 1] rfl (bX1_beginBlock_65 C X (m0.trans (pm_S3.le K0)) hf q))
set_option maxHeartbeats 4000000 in
set_option maxRecDepth 100000 in
theorem bX1_beginBlock_0 {g : pm_Gm} {l : Launch} {G : pm_Gl} {Qr : Option Value → pm_H → Prop} (C : pm_C g cX1_beginBlock RX1) {h0 h : pm_H} {x0 : Nat} {r : pm_H} (X : pm_X g l G mX1_beginBlock (pm_sz r - pm_sz h0) (pm_us r - pm_us h0) Qr) (m0 : pm_Le h0 h) (hf : fX1_beginBlock_b0 h x0 = some r) (q : Qr none r) : pm_G g 0 [(0, .ref x0)] [] h (pm_sz h - pm_sz h0) (pm_us h - pm_us h0) := by
  have le0 := moX1_beginBlock_b0 hf
  have kc1 := Nat.sub_le_sub_right le0.1 (pm_sz h0)
  have kc2 := Nat.sub_le_sub_right le0.2 (pm_us h0)
  have K0 := pm_S3.rf h
  unfold fX1_beginBlock_b0 at hf
  refine pm_aload_n C dX1_beginBlock_0 rfl rfl ?_
  obtain ⟨k1, hf⟩ := pm_if hf
  obtain ⟨v2, e3, hf⟩ := pm_bd hf
  refine pm_getR C dX1_beginBlock_1 flX1_36 rfl k1 e3 ?_
  obtain ⟨k4, hf⟩ := pm_if hf
  refine pm_getL C dX1_beginBlock_4 flX1_201 rfl k4 rfl ?_
  refine pm_aload_n C dX1_beginBlock_7 rfl rfl ?_
  obtain ⟨v5, e6, hf⟩ := pm_bd hf
  refine pm_getR C dX1_beginBlock_8 flX1_40 rfl k1 e6 ?_
  obtain ⟨k7, hf⟩ := pm_if hf
  obtain ⟨v8, e9, hf⟩ := pm_bd hf
  refine pm_getR C dX1_beginBlock_11 flX1_116 rfl k7 e9 ?_
  obtain ⟨k10, hf⟩ := pm_if hf
  refine pm_alen (t := 4) C dX1_beginBlock_14 (by decide) k10 rfl ?_
  refine pm_i2l C dX1_beginBlock_15 ?_
  refine pm_lcmp C dX1_beginBlock_16 ?_
  refine pm_if_lt (tgt := 27) C dX1_beginBlock_17 (by decide) (fun c11 => ?_) (fun c11 => ?_)
  · have hf := pm_it hf ((pm_lg_lt _ _).mp c11)
    refine pm_aload_n C dX1_beginBlock_27 rfl rfl ?_
    refine pm_getR C dX1_beginBlock_28 flX1_36 rfl k1 e3 ?_
    refine pm_getL C dX1_beginBlock_31 flX1_201 rfl k4 rfl ?_
    refine pm_l2i C dX1_beginBlock_34 ?_
    obtain ⟨y12, e13, hf⟩ := pm_lt hf
    refine pm_topI e13 ?_
    refine pm_istore_n (lv' := [(1, .int y12), (0, .ref x0)]) C dX1_beginBlock_35 rfl (pm_nl X (by decide)) rfl ?_
    refine pm_iload_n C dX1_beginBlock_36 rfl rfl ?_
    refine pm_if_lt (tgt := 51) C dX1_beginBlock_37 (by decide) (fun c14 => ?_) (fun c14 => ?_)
    · have hf := pm_it hf c14
      refine pm_aload_n C dX1_beginBlock_51 rfl rfl ?_
      obtain ⟨v15, e16, hf⟩ := pm_bd hf
      refine pm_getR C dX1_beginBlock_52 flX1_33 rfl k1 e16 ?_
      refine pm_iconst (v := 0) C dX1_beginBlock_55 (by decide) ?_
      refine pm_sipush (v := 128) C dX1_beginBlock_56 (by decide) ?_
      refine pm_iload_n C dX1_beginBlock_59 rfl rfl ?_
      refine pm_iadd C dX1_beginBlock_60 ?_
      obtain ⟨y17, e18, hf⟩ := pm_lt hf
      refine pm_topI e18 ?_
      refine pm_mmaxI C (pm_XR X) dX1_beginBlock_61 mtX1_236 (by decide) (by decide) (Nat.le_of_ble_eq_true rfl) kc1 kc2 ?_
      obtain ⟨y19, e20, hf⟩ := pm_lt hf
      refine pm_topI e20 ?_
      obtain ⟨k21, hf⟩ := pm_if hf
      obtain ⟨u22, hf⟩ := pm_if hf
      obtain ⟨v23, e24, hf⟩ := pm_bd hf
      refine pm_ald (t := 4) C dX1_beginBlock_64 (by decide) rfl k21 u22 e24 ?_
      exact pa_join K0 (pm_sub [1, 0] rfl (bX1_beginBlock_65 C X (m0.trans (pm_S3.le K0)) hf q))
    · have hf := pm_ie hf c14
      refine pm_aload_n C dX1_beginBlock_40 rfl rfl ?_
      refine pm_getR C dX1_beginBlock_41 flX1_40 rfl k1 e6 ?_
      refine pm_iload_n C dX1_beginBlock_44 rfl rfl ?_
      obtain ⟨v25, e26, hf⟩ := pm_bd hf
      refine pm_callV (as := [.int y12]) (st := []) C X dX1_beginBlock_45 lnX1_287 myX7_shape viX7_shape ⟨by decide, by decide⟩ rfl rfl k7 (Nat.le_of_ble_eq_true rfl) (pa_le1 K0 m0 (moX7_shape e26) (moX1_beginBlock_b48 hf)) (pa_le2 K0 m0 (moX7_shape e26) (moX1_beginBlock_b48 hf)) (ctX7_shape e26 ?_)
      show pm_G g 48 [(1, .int y12), (0, .ref x0)] [.ref v25.1] v25.2 (pm_sz h - pm_sz h0 + (pm_sz v25.2 - pm_sz h)) (pm_us h - pm_us h0 + (pm_us v25.2 - pm_us h))
      refine pa_fin K0 m0 (moX7_shape e26) ?_
      exact pm_sub [1, 0] rfl (bX1_beginBlock_48 C X ((m0.trans (pm_S3.le K0)).trans (moX7_shape e26)) hf q)
  · have hf := pm_ie hf ((fun z => c11 ((pm_lg_lt _ _).mpr z)))
    refine pm_aload_n C dX1_beginBlock_20 rfl rfl ?_
    refine pm_bipush (v := 30) C dX1_beginBlock_21 (by decide) ?_
    obtain ⟨v27, e28, hf⟩ := pm_bd hf
    refine pm_callV (as := [.int 30]) (st := []) C X dX1_beginBlock_23 lnX1_198 myX1_fail viX1_fail ⟨by decide, by decide⟩ rfl rfl k1 (Nat.le_of_ble_eq_true rfl) kc1 kc2 (ctX1_fail e28 ?_)
    have K29 := pm_S3.trans (kpX1_fail e28) K0
    show pm_G g 26 [(0, .ref x0)] [] v27 (pm_sz h - pm_sz h0) (pm_us h - pm_us h0)
    have hf := Option.some.inj hf
    subst hf
    exact pm_vret C X dX1_beginBlock_26 rfl kc1 kc2 q
set_option maxHeartbeats 4000000 in
set_option maxRecDepth 100000 in
theorem ctX1_beginBlock {l : Launch} {G : pm_Gl} {h : pm_H} {a0 : Nat} {r : pm_H} {Qr : Option Value → pm_H → Prop} (hf : fX1_beginBlock h a0 = some r) (q : Qr none r) : pm_Ct l G mX1_beginBlock [.ref a0] h (pm_sz r - pm_sz h) (pm_us r - pm_us h) Qr := by
  refine pm_body pnX1 (Nat.le_of_ble_eq_true rfl) (fun g C X => ?_)
  have C : pm_C g cX1_beginBlock RX1 := C
  show pm_G g 0 [(0, .ref a0)] [] h 0 0
  unfold fX1_beginBlock at hf
  exact pa_start (pm_sub [0] rfl (bX1_beginBlock_0 C X (pm_Le.rf h) hf q))
