theorem dX11_grow_0 : decode cX11_grow 0 = .ok (.aload_n 0, 1) := by decide +kernel
theorem dX11_grow_1 : decode cX11_grow 1 = .ok (.getfield 17, 3) := by decide +kernel
theorem dX11_grow_4 : decode cX11_grow 4 = .ok (.iload_n 1, 1) := by decide +kernel
theorem dX11_grow_5 : decode cX11_grow 5 = .ok (.invokestatic 45, 3) := by decide +kernel
theorem dX11_grow_8 : decode cX11_grow 8 = .ok (.istore 5, 2) := by decide +kernel
theorem dX11_grow_10 : decode cX11_grow 10 = .ok (.aload_n 0, 1) := by decide +kernel
theorem dX11_grow_11 : decode cX11_grow 11 = .ok (.getfield 20, 3) := by decide +kernel
theorem dX11_grow_14 : decode cX11_grow 14 = .ok (.iload_n 1, 1) := by decide +kernel
theorem dX11_grow_15 : decode cX11_grow 15 = .ok (.invokestatic 49, 3) := by decide +kernel
theorem dX11_grow_18 : decode cX11_grow 18 = .ok (.lconst 0, 1) := by decide +kernel
theorem dX11_grow_19 : decode cX11_grow 19 = .ok (.lcmp, 1) := by decide +kernel
theorem dX11_grow_20 : decode cX11_grow 20 = .ok (.ifCond .ge 9, 3) := by decide +kernel
theorem dX11_grow_23 : decode cX11_grow 23 = .ok (.ldc2_w 52, 3) := by decide +kernel
theorem dX11_grow_26 : decode cX11_grow 26 = .ok (.goto 11, 3) := by decide +kernel
theorem dX11_grow_29 : decode cX11_grow 29 = .ok (.aload_n 0, 1) := by decide +kernel
theorem dX11_grow_30 : decode cX11_grow 30 = .ok (.getfield 20, 3) := by decide +kernel
theorem dX11_grow_33 : decode cX11_grow 33 = .ok (.iload_n 1, 1) := by decide +kernel
theorem dX11_grow_34 : decode cX11_grow 34 = .ok (.invokestatic 49, 3) := by decide +kernel
theorem dX11_grow_37 : decode cX11_grow 37 = .ok (.lstore 6, 2) := by decide +kernel
theorem dX11_grow_39 : decode cX11_grow 39 = .ok (.iload_n 1, 1) := by decide +kernel
theorem dX11_grow_40 : decode cX11_grow 40 = .ok (.ifCond .lt 33, 3) := by decide +kernel
theorem dX11_grow_43 : decode cX11_grow 43 = .ok (.iload_n 1, 1) := by decide +kernel
theorem dX11_grow_44 : decode cX11_grow 44 = .ok (.aload_n 0, 1) := by decide +kernel
theorem dX11_grow_45 : decode cX11_grow 45 = .ok (.getfield 26, 3) := by decide +kernel
theorem dX11_grow_48 : decode cX11_grow 48 = .ok (.arraylength, 1) := by decide +kernel
theorem dX11_grow_49 : decode cX11_grow 49 = .ok (.if_icmp .ge 24, 3) := by decide +kernel
theorem dX11_grow_52 : decode cX11_grow 52 = .ok (.lload_n 2, 1) := by decide +kernel
theorem dX11_grow_53 : decode cX11_grow 53 = .ok (.aload_n 0, 1) := by decide +kernel
theorem dX11_grow_54 : decode cX11_grow 54 = .ok (.getfield 9, 3) := by decide +kernel
theorem dX11_grow_57 : decode cX11_grow 57 = .ok (.i2l, 1) := by decide +kernel
theorem dX11_grow_58 : decode cX11_grow 58 = .ok (.lcmp, 1) := by decide +kernel
theorem dX11_grow_59 : decode cX11_grow 59 = .ok (.ifCond .gt 14, 3) := by decide +kernel
theorem dX11_grow_62 : decode cX11_grow 62 = .ok (.iload 5, 2) := by decide +kernel
theorem dX11_grow_64 : decode cX11_grow 64 = .ok (.i2l, 1) := by decide +kernel
theorem dX11_grow_65 : decode cX11_grow 65 = .ok (.lload_n 2, 1) := by decide +kernel
theorem dX11_grow_66 : decode cX11_grow 66 = .ok (.ladd, 1) := by decide +kernel
theorem dX11_grow_67 : decode cX11_grow 67 = .ok (.lload 6, 2) := by decide +kernel
theorem dX11_grow_69 : decode cX11_grow 69 = .ok (.lcmp, 1) := by decide +kernel
theorem dX11_grow_70 : decode cX11_grow 70 = .ok (.ifCond .le 5, 3) := by decide +kernel
theorem dX11_grow_73 : decode cX11_grow 73 = .ok (.iconst (-1), 1) := by decide +kernel
theorem dX11_grow_74 : decode cX11_grow 74 = .ok (.ireturn, 1) := by decide +kernel
theorem dX11_grow_75 : decode cX11_grow 75 = .ok (.iload 5, 2) := by decide +kernel
theorem dX11_grow_77 : decode cX11_grow 77 = .ok (.lload_n 2, 1) := by decide +kernel
theorem dX11_grow_78 : decode cX11_grow 78 = .ok (.l2i, 1) := by decide +kernel
theorem dX11_grow_79 : decode cX11_grow 79 = .ok (.iadd, 1) := by decide +kernel
theorem dX11_grow_80 : decode cX11_grow 80 = .ok (.istore 8, 2) := by decide +kernel
theorem dX11_grow_82 : decode cX11_grow 82 = .ok (.iload 8, 2) := by decide +kernel
theorem dX11_grow_84 : decode cX11_grow 84 = .ok (.aload_n 0, 1) := by decide +kernel
theorem dX11_grow_85 : decode cX11_grow 85 = .ok (.getfield 26, 3) := by decide +kernel
theorem dX11_grow_88 : decode cX11_grow 88 = .ok (.iload_n 1, 1) := by decide +kernel
theorem dX11_grow_89 : decode cX11_grow 89 = .ok (.aaload, 1) := by decide +kernel
theorem dX11_grow_90 : decode cX11_grow 90 = .ok (.arraylength, 1) := by decide +kernel
theorem dX11_grow_91 : decode cX11_grow 91 = .ok (.if_icmp .le 37, 3) := by decide +kernel
theorem dX11_grow_94 : decode cX11_grow 94 = .ok (.sipush 1024, 3) := by decide +kernel
theorem dX11_grow_97 : decode cX11_grow 97 = .ok (.iload 8, 2) := by decide +kernel
theorem dX11_grow_99 : decode cX11_grow 99 = .ok (.iconst 2, 1) := by decide +kernel
theorem dX11_grow_100 : decode cX11_grow 100 = .ok (.iload 5, 2) := by decide +kernel
theorem dX11_grow_102 : decode cX11_grow 102 = .ok (.imul, 1) := by decide +kernel
theorem dX11_grow_103 : decode cX11_grow 103 = .ok (.invokestatic 54, 3) := by decide +kernel
theorem dX11_grow_106 : decode cX11_grow 106 = .ok (.invokestatic 60, 3) := by decide +kernel
theorem dX11_grow_109 : decode cX11_grow 109 = .ok (.istore 9, 2) := by decide +kernel
theorem dX11_grow_111 : decode cX11_grow 111 = .ok (.aload_n 0, 1) := by decide +kernel
theorem dX11_grow_112 : decode cX11_grow 112 = .ok (.getfield 26, 3) := by decide +kernel
theorem dX11_grow_115 : decode cX11_grow 115 = .ok (.iload_n 1, 1) := by decide +kernel
theorem dX11_grow_116 : decode cX11_grow 116 = .ok (.aload_n 0, 1) := by decide +kernel
theorem dX11_grow_117 : decode cX11_grow 117 = .ok (.getfield 26, 3) := by decide +kernel
theorem dX11_grow_120 : decode cX11_grow 120 = .ok (.iload_n 1, 1) := by decide +kernel
theorem dX11_grow_121 : decode cX11_grow 121 = .ok (.aaload, 1) := by decide +kernel
theorem dX11_grow_122 : decode cX11_grow 122 = .ok (.iload 9, 2) := by decide +kernel
theorem dX11_grow_124 : decode cX11_grow 124 = .ok (.invokestatic 63, 3) := by decide +kernel
theorem dX11_grow_127 : decode cX11_grow 127 = .ok (.aastore, 1) := by decide +kernel
theorem dX11_grow_128 : decode cX11_grow 128 = .ok (.aload_n 0, 1) := by decide +kernel
theorem dX11_grow_129 : decode cX11_grow 129 = .ok (.dup, 1) := by decide +kernel
theorem dX11_grow_130 : decode cX11_grow 130 = .ok (.getfield 9, 3) := by decide +kernel
theorem dX11_grow_133 : decode cX11_grow 133 = .ok (.lload_n 2, 1) := by decide +kernel
theorem dX11_grow_134 : decode cX11_grow 134 = .ok (.l2i, 1) := by decide +kernel
theorem dX11_grow_135 : decode cX11_grow 135 = .ok (.isub, 1) := by decide +kernel
theorem dX11_grow_136 : decode cX11_grow 136 = .ok (.putfield 9, 3) := by decide +kernel
theorem dX11_grow_139 : decode cX11_grow 139 = .ok (.aload_n 0, 1) := by decide +kernel
theorem dX11_grow_140 : decode cX11_grow 140 = .ok (.getfield 17, 3) := by decide +kernel
theorem dX11_grow_143 : decode cX11_grow 143 = .ok (.iload_n 1, 1) := by decide +kernel
theorem dX11_grow_144 : decode cX11_grow 144 = .ok (.iload 8, 2) := by decide +kernel
theorem dX11_grow_146 : decode cX11_grow 146 = .ok (.invokestatic 32, 3) := by decide +kernel
theorem dX11_grow_149 : decode cX11_grow 149 = .ok (.aload_n 0, 1) := by decide +kernel
theorem dX11_grow_150 : decode cX11_grow 150 = .ok (.iload_n 1, 1) := by decide +kernel
theorem dX11_grow_151 : decode cX11_grow 151 = .ok (.iload 5, 2) := by decide +kernel
theorem dX11_grow_153 : decode cX11_grow 153 = .ok (.i2l, 1) := by decide +kernel
theorem dX11_grow_154 : decode cX11_grow 154 = .ok (.iload 4, 2) := by decide +kernel
theorem dX11_grow_156 : decode cX11_grow 156 = .ok (.lload_n 2, 1) := by decide +kernel
theorem dX11_grow_157 : decode cX11_grow 157 = .ok (.invokevirtual 69, 3) := by decide +kernel
theorem dX11_grow_160 : decode cX11_grow 160 = .ok (.iload 5, 2) := by decide +kernel
theorem dX11_grow_162 : decode cX11_grow 162 = .ok (.ireturn, 1) := by decide +kernel
noncomputable def fX11_grow_b127 (h : pm_H) (x0 : Nat) (x1 : Int32) (x2 : Int64) (x4 : Int32) (x5 : Int32) (x8 : Int32) (s0 : Nat) (s1 : Int32) (s2 : Nat) : Option (Int32 × pm_H) := if pm_kd h s2 = 36 then if pm_kd h s0 = 34 then if pm_in s1 (pm_ln h s2) then if pm_kd (pm_setR h s2 s1.toNatClampNeg (some s0)) x0 = 11 then pm_let ((pm_I (pm_setR h s2 s1.toNatClampNeg (some s0)) x0 1) - x2.toInt32) fun y54 => (pm_R (pm_setI (pm_setR h s2 s1.toNatClampNeg (some s0)) x0 1 y54) x0 3).bind fun v56 => (fX12_setItem (pm_setI (pm_setR h s2 s1.toNatClampNeg (some s0)) x0 1 y54) v56 x1 x8).bind fun v58 => if pm_kd v58 x0 = 11 then (fX11_fill v58 x0 x1 x5.toInt64 x4 x2).bind fun v62 => some ((x5, v62)) else none else none else none else none else none
noncomputable def fX11_grow_b37 (h : pm_H) (x0 : Nat) (x1 : Int32) (x2 : Int64) (x4 : Int32) (x5 : Int32) (s0 : Int64) : Option (Int32 × pm_H) := if x1 < 0 then (some (((-1), h))) else (if pm_kd h x0 = 11 then (pm_R h x0 5).bind fun v15 => if pm_kd h v15 = 36 then if (Int32.ofNat (pm_ln h v15)) ≤ x1 then (some (((-1), h))) else (if ((pm_I h x0 1).toInt64) < x2 then (some (((-1), h))) else (if (x5.toInt64 + x2) ≤ s0 then (pm_let (x5 + x2.toInt32) fun y21 => if pm_in x1 (pm_ln h v15) then (pm_R h v15 x1.toNatClampNeg).bind fun v24 => if pm_kd h v24 = 34 then if y21 ≤ (Int32.ofNat (pm_ln h v24)) then (pm_let ((pm_I h x0 1) - x2.toInt32) fun y28 => (pm_R (pm_setI h x0 1 y28) x0 3).bind fun v30 => (fX12_setItem (pm_setI h x0 1 y28) v30 x1 y21).bind fun v32 => if pm_kd v32 x0 = 11 then (fX11_fill v32 x0 x1 x5.toInt64 x4 x2).bind fun v36 => some ((x5, v36)) else none) else (pm_let (2 * x5) fun y39 => pm_let (if y21 < y39 then y39 else y21) fun y41 => pm_let (if y41 < (1024 : Int32) then y41 else (1024 : Int32)) fun y43 => if pm_in x1 (pm_ln h v15) then (pm_R h v15 x1.toNatClampNeg).bind fun v46 => (fJ7_copyOf_59c91 h v46 y43).bind fun v48 => fX11_grow_b127 v48.2 x0 x1 x2 x4 x5 y21 v48.1 x1 v15 else none) else none else none) else (some (((-1), h))))) else none else none)
noncomputable def fX11_grow_b0 (h : pm_H) (x0 : Nat) (x1 : Int32) (x2 : Int64) (x4 : Int32) : Option (Int32 × pm_H) := if pm_kd h x0 = 11 then (pm_R h x0 3).bind fun v2 => (fX12_item h v2 x1).bind fun v4 => (pm_R h x0 4).bind fun v6 => (fX12_item_ h v6 x1).bind fun v8 => if 0 ≤ v8 then ((fX12_item_ h v6 x1).bind fun v11 => fX11_grow_b37 h x0 x1 x2 x4 v4 v11) else (fX11_grow_b37 h x0 x1 x2 x4 v4 4294967295) else none
noncomputable def fX11_grow (h : pm_H) (a0 : Nat) (p1 : Int32) (p2 : Int64) (p3 : Int32) : Option (Int32 × pm_H) := fX11_grow_b0 h a0 p1 p2 p3
set_option maxHeartbeats 4000000 in
set_option maxRecDepth 100000 in
theorem moX11_grow_b127 {h : pm_H} {x0 : Nat} {x1 : Int32} {x2 : Int64} {x4 : Int32} {x5 : Int32} {x8 : Int32} {s0 : Nat} {s1 : Int32} {s2 : Nat} {r : (Int32 × pm_H)} (hf : fX11_grow_b127 h x0 x1 x2 x4 x5 x8 s0 s1 s2 = some r) : pm_Le h r.2 := by
  unfold fX11_grow_b127 at hf
  have K0 := pm_S3.rf h
  obtain ⟨k50, hf⟩ := pm_if hf
  obtain ⟨k51, hf⟩ := pm_if hf
  obtain ⟨u52, hf⟩ := pm_if hf
  obtain ⟨k53, hf⟩ := pm_if hf
  obtain ⟨y54, e55, hf⟩ := pm_lt hf
  obtain ⟨v56, e57, hf⟩ := pm_bd hf
  obtain ⟨v58, e59, hf⟩ := pm_bd hf
  have K60 := pm_S3.trans (kpX12_setItem e59) (pm_S3I (pm_S3R K0))
  obtain ⟨k61, hf⟩ := pm_if hf
  obtain ⟨v62, e63, hf⟩ := pm_bd hf
  have K64 := pm_S3.trans (kpX11_fill e63) K60
  have hf := Option.some.inj hf
  subst hf
  exact pm_S3.le K64
set_option maxHeartbeats 4000000 in
set_option maxRecDepth 100000 in
theorem moX11_grow_b37 {h : pm_H} {x0 : Nat} {x1 : Int32} {x2 : Int64} {x4 : Int32} {x5 : Int32} {s0 : Int64} {r : (Int32 × pm_H)} (hf : fX11_grow_b37 h x0 x1 x2 x4 x5 s0 = some r) : pm_Le h r.2 := by
  unfold fX11_grow_b37 at hf
  have K0 := pm_S3.rf h
  by_cases c13 : x1 < 0
  · have hf := pm_it hf c13
    have hf := Option.some.inj hf
    subst hf
    exact pm_S3.le K0
  · have hf := pm_ie hf c13
    obtain ⟨k14, hf⟩ := pm_if hf
    obtain ⟨v15, e16, hf⟩ := pm_bd hf
    obtain ⟨k17, hf⟩ := pm_if hf
    by_cases c18 : (Int32.ofNat (pm_ln h v15)) ≤ x1
    · have hf := pm_it hf c18
      have hf := Option.some.inj hf
      subst hf
      exact pm_S3.le K0
    · have hf := pm_ie hf c18
      by_cases c19 : ((pm_I h x0 1).toInt64) < x2
      · have hf := pm_it hf c19
        have hf := Option.some.inj hf
        subst hf
        exact pm_S3.le K0
      · have hf := pm_ie hf c19
        by_cases c20 : (x5.toInt64 + x2) ≤ s0
        · have hf := pm_it hf c20
          obtain ⟨y21, e22, hf⟩ := pm_lt hf
          obtain ⟨u23, hf⟩ := pm_if hf
          obtain ⟨v24, e25, hf⟩ := pm_bd hf
          obtain ⟨k26, hf⟩ := pm_if hf
          by_cases c27 : y21 ≤ (Int32.ofNat (pm_ln h v24))
          · have hf := pm_it hf c27
            obtain ⟨y28, e29, hf⟩ := pm_lt hf
            obtain ⟨v30, e31, hf⟩ := pm_bd hf
            obtain ⟨v32, e33, hf⟩ := pm_bd hf
            have K34 := pm_S3.trans (kpX12_setItem e33) (pm_S3I K0)
            obtain ⟨k35, hf⟩ := pm_if hf
            obtain ⟨v36, e37, hf⟩ := pm_bd hf
            have K38 := pm_S3.trans (kpX11_fill e37) K34
            have hf := Option.some.inj hf
            subst hf
            exact pm_S3.le K38
          · have hf := pm_ie hf c27
            obtain ⟨y39, e40, hf⟩ := pm_lt hf
            obtain ⟨y41, e42, hf⟩ := pm_lt hf
            obtain ⟨y43, e44, hf⟩ := pm_lt hf
            obtain ⟨u45, hf⟩ := pm_if hf
            obtain ⟨v46, e47, hf⟩ := pm_bd hf
            obtain ⟨v48, e49, hf⟩ := pm_bd hf
            exact ((pm_S3.le K0).trans (moJ7_copyOf_59c91 e49)).trans (moX11_grow_b127 hf)
        · have hf := pm_ie hf c20
          have hf := Option.some.inj hf
          subst hf
          exact pm_S3.le K0
set_option maxHeartbeats 4000000 in
set_option maxRecDepth 100000 in
theorem moX11_grow_b0 {h : pm_H} {x0 : Nat} {x1 : Int32} {x2 : Int64} {x4 : Int32} {r : (Int32 × pm_H)} (hf : fX11_grow_b0 h x0 x1 x2 x4 = some r) : pm_Le h r.2 := by
  unfold fX11_grow_b0 at hf
  have K0 := pm_S3.rf h
  obtain ⟨k1, hf⟩ := pm_if hf
  obtain ⟨v2, e3, hf⟩ := pm_bd hf
  obtain ⟨v4, e5, hf⟩ := pm_bd hf
  obtain ⟨v6, e7, hf⟩ := pm_bd hf
  obtain ⟨v8, e9, hf⟩ := pm_bd hf
  by_cases c10 : 0 ≤ v8
  · have hf := pm_it hf c10
    obtain ⟨v11, e12, hf⟩ := pm_bd hf
    exact (pm_S3.le K0).trans (moX11_grow_b37 hf)
  · have hf := pm_ie hf c10
    exact (pm_S3.le K0).trans (moX11_grow_b37 hf)
set_option maxHeartbeats 4000000 in
set_option maxRecDepth 100000 in
theorem moX11_grow {h : pm_H} {a0 : Nat} {p1 : Int32} {p2 : Int64} {p3 : Int32} {r : (Int32 × pm_H)} (hf : fX11_grow h a0 p1 p2 p3 = some r) : pm_Le h r.2 := by
  unfold fX11_grow at hf
  have K0 := pm_S3.rf h
  exact (pm_S3.le K0).trans (moX11_grow_b0 hf)
set_option maxHeartbeats 4000000 in
set_option maxRecDepth 100000 in
theorem bX11_grow_127 {g : pm_Gm} {l : Launch} {G : pm_Gl} {Qr : Option Value → pm_H → Prop} (C : pm_C g cX11_grow RX11) {h0 h : pm_H} {x0 : Nat} {x1 : Int32} {x2 : Int64} {x4 : Int32} {x5 : Int32} {x8 : Int32} {s0 : Nat} {s1 : Int32} {s2 : Nat} {r : (Int32 × pm_H)} (X : pm_X g l G mX11_grow (pm_sz r.2 - pm_sz h0) (pm_us r.2 - pm_us h0) Qr) (m0 : pm_Le h0 h) (hf : fX11_grow_b127 h x0 x1 x2 x4 x5 x8 s0 s1 s2 = some r) (q : Qr (some (.int r.1)) r.2) : pm_G g 127 [(0, .ref x0), (1, .int x1), (2, .long x2), (4, .int x4), (5, .int x5), (8, .int x8)] [.ref s0, .int s1, .ref s2] h (pm_sz h - pm_sz h0) (pm_us h - pm_us h0) := by
  have le0 := moX11_grow_b127 hf
  have kc1 := Nat.sub_le_sub_right le0.1 (pm_sz h0)
  have kc2 := Nat.sub_le_sub_right le0.2 (pm_us h0)
  have K0 := pm_S3.rf h
  unfold fX11_grow_b127 at hf
  obtain ⟨k50, hf⟩ := pm_if hf
  obtain ⟨k51, hf⟩ := pm_if hf
  obtain ⟨u52, hf⟩ := pm_if hf
  refine pm_aasta (t := 4) (u := 2) C dX11_grow_127 (Or.inl ⟨rfl, rfl⟩) k50 k51 u52 ?_
  refine pm_aload_n C dX11_grow_128 rfl rfl ?_
  refine pm_dup C dX11_grow_129 rfl ?_
  obtain ⟨k53, hf⟩ := pm_if hf
  refine pm_getI C dX11_grow_130 flX11_9 rfl k53 rfl ?_
  refine pm_lload_n C dX11_grow_133 rfl rfl ?_
  refine pm_l2i C dX11_grow_134 ?_
  refine pm_isub C dX11_grow_135 ?_
  obtain ⟨y54, e55, hf⟩ := pm_lt hf
  refine pm_topI e55 ?_
  refine pm_putI C dX11_grow_136 flX11_9 rfl rfl k53 rfl rfl ?_
  refine pm_aload_n C dX11_grow_139 rfl rfl ?_
  obtain ⟨v56, e57, hf⟩ := pm_bd hf
  refine pm_getR C dX11_grow_140 flX11_17 rfl k53 e57 ?_
  refine pm_iload_n C dX11_grow_143 rfl rfl ?_
  refine pm_iload C dX11_grow_144 rfl ?_
  obtain ⟨v58, e59, hf⟩ := pm_bd hf
  refine pm_callS (as := [.ref v56, .int x1, .int x8]) (st := []) C X dX11_grow_146 lnX11_32 myX12_setItem stX12_setItem ⟨by decide, by decide⟩ rfl rfl (Nat.le_of_ble_eq_true rfl) kc1 kc2 (ctX12_setItem e59 ?_)
  have K60 := pm_S3.trans (kpX12_setItem e59) (pm_S3I (pm_S3R K0))
  show pm_G g 149 [(0, .ref x0), (1, .int x1), (2, .long x2), (4, .int x4), (5, .int x5), (8, .int x8)] [] v58 (pm_sz h - pm_sz h0) (pm_us h - pm_us h0)
  refine pm_aload_n C dX11_grow_149 rfl rfl ?_
  refine pm_iload_n C dX11_grow_150 rfl rfl ?_
  refine pm_iload C dX11_grow_151 rfl ?_
  refine pm_i2l C dX11_grow_153 ?_
  refine pm_iload C dX11_grow_154 rfl ?_
  refine pm_lload_n C dX11_grow_156 rfl rfl ?_
  obtain ⟨k61, hf⟩ := pm_if hf
  obtain ⟨v62, e63, hf⟩ := pm_bd hf
  refine pm_callV (as := [.int x1, .long x5.toInt64, .int x4, .long x2]) (st := []) C X dX11_grow_157 lnX11_69 myX11_fill viX11_fill ⟨by decide, by decide⟩ rfl rfl k61 (Nat.le_of_ble_eq_true rfl) kc1 kc2 (ctX11_fill e63 ?_)
  have K64 := pm_S3.trans (kpX11_fill e63) K60
  show pm_G g 160 [(0, .ref x0), (1, .int x1), (2, .long x2), (4, .int x4), (5, .int x5), (8, .int x8)] [] v62 (pm_sz h - pm_sz h0) (pm_us h - pm_us h0)
  refine pm_iload C dX11_grow_160 rfl ?_
  have hf := Option.some.inj hf
  subst hf
  exact pm_iret C X dX11_grow_162 rfl kc1 kc2 q
set_option maxHeartbeats 4000000 in
set_option maxRecDepth 100000 in
theorem bX11_grow_37 {g : pm_Gm} {l : Launch} {G : pm_Gl} {Qr : Option Value → pm_H → Prop} (C : pm_C g cX11_grow RX11) {h0 h : pm_H} {x0 : Nat} {x1 : Int32} {x2 : Int64} {x4 : Int32} {x5 : Int32} {s0 : Int64} {r : (Int32 × pm_H)} (X : pm_X g l G mX11_grow (pm_sz r.2 - pm_sz h0) (pm_us r.2 - pm_us h0) Qr) (m0 : pm_Le h0 h) (hf : fX11_grow_b37 h x0 x1 x2 x4 x5 s0 = some r) (q : Qr (some (.int r.1)) r.2) : pm_G g 37 [(0, .ref x0), (1, .int x1), (2, .long x2), (4, .int x4), (5, .int x5)] [.long s0] h (pm_sz h - pm_sz h0) (pm_us h - pm_us h0) := by
  have le0 := moX11_grow_b37 hf
  have kc1 := Nat.sub_le_sub_right le0.1 (pm_sz h0)
  have kc2 := Nat.sub_le_sub_right le0.2 (pm_us h0)
  have K0 := pm_S3.rf h
  unfold fX11_grow_b37 at hf
  refine pm_lstore (lv' := [(6, .long s0), (0, .ref x0), (1, .int x1), (2, .long x2), (4, .int x4), (5, .int x5)]) C dX11_grow_37 (pm_nl X (by decide)) rfl ?_
  refine pm_iload_n C dX11_grow_39 rfl rfl ?_
  refine pm_if_lt (tgt := 73) C dX11_grow_40 (by decide) (fun c13 => ?_) (fun c13 => ?_)
  · have hf := pm_it hf c13
    refine pm_iconst (v := (-1)) C dX11_grow_73 (by decide) ?_
    have hf := Option.some.inj hf
    subst hf
    exact pm_iret C X dX11_grow_74 rfl kc1 kc2 q
  · have hf := pm_ie hf c13
    refine pm_iload_n C dX11_grow_43 rfl rfl ?_
    refine pm_aload_n C dX11_grow_44 rfl rfl ?_
    obtain ⟨k14, hf⟩ := pm_if hf
    obtain ⟨v15, e16, hf⟩ := pm_bd hf
    refine pm_getR C dX11_grow_45 flX11_26 rfl k14 e16 ?_
    obtain ⟨k17, hf⟩ := pm_if hf
    refine pm_alen (t := 4) C dX11_grow_48 (by decide) k17 rfl ?_
    refine pm_icmp_ge (tgt := 73) C dX11_grow_49 (by decide) (fun c18 => ?_) (fun c18 => ?_)
    · have hf := pm_it hf c18
      refine pm_iconst (v := (-1)) C dX11_grow_73 (by decide) ?_
      have hf := Option.some.inj hf
      subst hf
      exact pm_iret C X dX11_grow_74 rfl kc1 kc2 q
    · have hf := pm_ie hf c18
      refine pm_lload_n C dX11_grow_52 rfl rfl ?_
      refine pm_aload_n C dX11_grow_53 rfl rfl ?_
      refine pm_getI C dX11_grow_54 flX11_9 rfl k14 rfl ?_
      refine pm_i2l C dX11_grow_57 ?_
      refine pm_lcmp C dX11_grow_58 ?_
      refine pm_if_gt (tgt := 73) C dX11_grow_59 (by decide) (fun c19 => ?_) (fun c19 => ?_)
      · have hf := pm_it hf ((pm_lg_gt _ _).mp c19)
        refine pm_iconst (v := (-1)) C dX11_grow_73 (by decide) ?_
        have hf := Option.some.inj hf
        subst hf
        exact pm_iret C X dX11_grow_74 rfl kc1 kc2 q
      · have hf := pm_ie hf ((fun z => c19 ((pm_lg_gt _ _).mpr z)))
        refine pm_iload C dX11_grow_62 rfl ?_
        refine pm_i2l C dX11_grow_64 ?_
        refine pm_lload_n C dX11_grow_65 rfl rfl ?_
        refine pm_ladd C dX11_grow_66 ?_
        refine pm_lload C dX11_grow_67 rfl ?_
        refine pm_lcmp C dX11_grow_69 ?_
        refine pm_if_le (tgt := 75) C dX11_grow_70 (by decide) (fun c20 => ?_) (fun c20 => ?_)
        · have hf := pm_it hf ((pm_lg_le _ _).mp c20)
          refine pm_iload C dX11_grow_75 rfl ?_
          refine pm_lload_n C dX11_grow_77 rfl rfl ?_
          refine pm_l2i C dX11_grow_78 ?_
          refine pm_iadd C dX11_grow_79 ?_
          obtain ⟨y21, e22, hf⟩ := pm_lt hf
          refine pm_topI e22 ?_
          refine pm_istore (lv' := [(8, .int y21), (6, .long s0), (0, .ref x0), (1, .int x1), (2, .long x2), (4, .int x4), (5, .int x5)]) C dX11_grow_80 (pm_nl X (by decide)) rfl ?_
          refine pm_iload C dX11_grow_82 rfl ?_
          refine pm_aload_n C dX11_grow_84 rfl rfl ?_
          refine pm_getR C dX11_grow_85 flX11_26 rfl k14 e16 ?_
          refine pm_iload_n C dX11_grow_88 rfl rfl ?_
          obtain ⟨u23, hf⟩ := pm_if hf
          obtain ⟨v24, e25, hf⟩ := pm_bd hf
          refine pm_ald (t := 4) C dX11_grow_89 (by decide) rfl k17 u23 e25 ?_
          obtain ⟨k26, hf⟩ := pm_if hf
          refine pm_alen (t := 2) C dX11_grow_90 (by decide) k26 rfl ?_
          refine pm_icmp_le (tgt := 128) C dX11_grow_91 (by decide) (fun c27 => ?_) (fun c27 => ?_)
          · have hf := pm_it hf c27
            refine pm_aload_n C dX11_grow_128 rfl rfl ?_
            refine pm_dup C dX11_grow_129 rfl ?_
            refine pm_getI C dX11_grow_130 flX11_9 rfl k14 rfl ?_
            refine pm_lload_n C dX11_grow_133 rfl rfl ?_
            refine pm_l2i C dX11_grow_134 ?_
            refine pm_isub C dX11_grow_135 ?_
            obtain ⟨y28, e29, hf⟩ := pm_lt hf
            refine pm_topI e29 ?_
            refine pm_putI C dX11_grow_136 flX11_9 rfl rfl k14 rfl rfl ?_
            refine pm_aload_n C dX11_grow_139 rfl rfl ?_
            obtain ⟨v30, e31, hf⟩ := pm_bd hf
            refine pm_getR C dX11_grow_140 flX11_17 rfl k14 e31 ?_
            refine pm_iload_n C dX11_grow_143 rfl rfl ?_
            refine pm_iload C dX11_grow_144 rfl ?_
            obtain ⟨v32, e33, hf⟩ := pm_bd hf
            refine pm_callS (as := [.ref v30, .int x1, .int y21]) (st := []) C X dX11_grow_146 lnX11_32 myX12_setItem stX12_setItem ⟨by decide, by decide⟩ rfl rfl (Nat.le_of_ble_eq_true rfl) kc1 kc2 (ctX12_setItem e33 ?_)
            have K34 := pm_S3.trans (kpX12_setItem e33) (pm_S3I K0)
            show pm_G g 149 [(8, .int y21), (6, .long s0), (0, .ref x0), (1, .int x1), (2, .long x2), (4, .int x4), (5, .int x5)] [] v32 (pm_sz h - pm_sz h0) (pm_us h - pm_us h0)
            refine pm_aload_n C dX11_grow_149 rfl rfl ?_
            refine pm_iload_n C dX11_grow_150 rfl rfl ?_
            refine pm_iload C dX11_grow_151 rfl ?_
            refine pm_i2l C dX11_grow_153 ?_
            refine pm_iload C dX11_grow_154 rfl ?_
            refine pm_lload_n C dX11_grow_156 rfl rfl ?_
            obtain ⟨k35, hf⟩ := pm_if hf
            obtain ⟨v36, e37, hf⟩ := pm_bd hf
            refine pm_callV (as := [.int x1, .long x5.toInt64, .int x4, .long x2]) (st := []) C X dX11_grow_157 lnX11_69 myX11_fill viX11_fill ⟨by decide, by decide⟩ rfl rfl k35 (Nat.le_of_ble_eq_true rfl) kc1 kc2 (ctX11_fill e37 ?_)
            have K38 := pm_S3.trans (kpX11_fill e37) K34
            show pm_G g 160 [(8, .int y21), (6, .long s0), (0, .ref x0), (1, .int x1), (2, .long x2), (4, .int x4), (5, .int x5)] [] v36 (pm_sz h - pm_sz h0) (pm_us h - pm_us h0)
            refine pm_iload C dX11_grow_160 rfl ?_
            have hf := Option.some.inj hf
            subst hf
            exact pm_iret C X dX11_grow_162 rfl kc1 kc2 q
          · have hf := pm_ie hf c27
            refine pm_sipush (v := 1024) C dX11_grow_94 (by decide) ?_
            refine pm_iload C dX11_grow_97 rfl ?_
            refine pm_iconst (v := 2) C dX11_grow_99 (by decide) ?_
            refine pm_iload C dX11_grow_100 rfl ?_
            refine pm_imul C dX11_grow_102 ?_
            obtain ⟨y39, e40, hf⟩ := pm_lt hf
            refine pm_topI e40 ?_
            refine pm_mmaxI C (pm_XR X) dX11_grow_103 mtX11_54 (by decide) (by decide) (Nat.le_of_ble_eq_true rfl) kc1 kc2 ?_
            obtain ⟨y41, e42, hf⟩ := pm_lt hf
            refine pm_topI e42 ?_
            refine pm_mminI C (pm_XR X) dX11_grow_106 mtX11_60 (by decide) (by decide) (Nat.le_of_ble_eq_true rfl) kc1 kc2 ?_
            obtain ⟨y43, e44, hf⟩ := pm_lt hf
            refine pm_topI e44 ?_
            refine pm_istore (lv' := [(9, .int y43), (8, .int y21), (6, .long s0), (0, .ref x0), (1, .int x1), (2, .long x2), (4, .int x4), (5, .int x5)]) C dX11_grow_109 (pm_nl X (by decide)) rfl ?_
            refine pm_aload_n C dX11_grow_111 rfl rfl ?_
            refine pm_getR C dX11_grow_112 flX11_26 rfl k14 e16 ?_
            refine pm_iload_n C dX11_grow_115 rfl rfl ?_
            refine pm_aload_n C dX11_grow_116 rfl rfl ?_
            refine pm_getR C dX11_grow_117 flX11_26 rfl k14 e16 ?_
            refine pm_iload_n C dX11_grow_120 rfl rfl ?_
            obtain ⟨u45, hf⟩ := pm_if hf
            obtain ⟨v46, e47, hf⟩ := pm_bd hf
            refine pm_ald (t := 4) C dX11_grow_121 (by decide) rfl k17 u45 e47 ?_
            refine pm_iload C dX11_grow_122 rfl ?_
            obtain ⟨v48, e49, hf⟩ := pm_bd hf
            refine pm_callS (as := [.ref v46, .int y43]) (st := [.int x1, .ref v15]) C X dX11_grow_124 lnX11_63 myJ7_copyOf_59c91 stJ7_copyOf_59c91 ⟨by decide, by decide⟩ rfl rfl (Nat.le_of_ble_eq_true rfl) (pa_le1 K0 m0 (moJ7_copyOf_59c91 e49) (moX11_grow_b127 hf)) (pa_le2 K0 m0 (moJ7_copyOf_59c91 e49) (moX11_grow_b127 hf)) (ctJ7_copyOf_59c91 e49 ?_)
            show pm_G g 127 [(9, .int y43), (8, .int y21), (6, .long s0), (0, .ref x0), (1, .int x1), (2, .long x2), (4, .int x4), (5, .int x5)] [.ref v48.1, .int x1, .ref v15] v48.2 (pm_sz h - pm_sz h0 + (pm_sz v48.2 - pm_sz h)) (pm_us h - pm_us h0 + (pm_us v48.2 - pm_us h))
            refine pa_fin K0 m0 (moJ7_copyOf_59c91 e49) ?_
            exact pm_sub [3, 4, 5, 6, 7, 1] rfl (bX11_grow_127 C X ((m0.trans (pm_S3.le K0)).trans (moJ7_copyOf_59c91 e49)) hf q)
        · have hf := pm_ie hf ((fun z => c20 ((pm_lg_le _ _).mpr z)))
          refine pm_iconst (v := (-1)) C dX11_grow_73 (by decide) ?_
          have hf := Option.some.inj hf
          subst hf
          exact pm_iret C X dX11_grow_74 rfl kc1 kc2 q
set_option maxHeartbeats 4000000 in
set_option maxRecDepth 100000 in
theorem bX11_grow_0 {g : pm_Gm} {l : Launch} {G : pm_Gl} {Qr : Option Value → pm_H → Prop} (C : pm_C g cX11_grow RX11) {h0 h : pm_H} {x0 : Nat} {x1 : Int32} {x2 : Int64} {x4 : Int32} {r : (Int32 × pm_H)} (X : pm_X g l G mX11_grow (pm_sz r.2 - pm_sz h0) (pm_us r.2 - pm_us h0) Qr) (m0 : pm_Le h0 h) (hf : fX11_grow_b0 h x0 x1 x2 x4 = some r) (q : Qr (some (.int r.1)) r.2) : pm_G g 0 [(0, .ref x0), (1, .int x1), (2, .long x2), (4, .int x4)] [] h (pm_sz h - pm_sz h0) (pm_us h - pm_us h0) := by
  have le0 := moX11_grow_b0 hf
  have kc1 := Nat.sub_le_sub_right le0.1 (pm_sz h0)
  have kc2 := Nat.sub_le_sub_right le0.2 (pm_us h0)
  have K0 := pm_S3.rf h
  unfold fX11_grow_b0 at hf
  refine pm_aload_n C dX11_grow_0 rfl rfl ?_
  obtain ⟨k1, hf⟩ := pm_if hf
  obtain ⟨v2, e3, hf⟩ := pm_bd hf
  refine pm_getR C dX11_grow_1 flX11_17 rfl k1 e3 ?_
  refine pm_iload_n C dX11_grow_4 rfl rfl ?_
  obtain ⟨v4, e5, hf⟩ := pm_bd hf
  refine pm_callS (as := [.ref v2, .int x1]) (st := []) C X dX11_grow_5 lnX11_45 myX12_item stX12_item ⟨by decide, by decide⟩ rfl rfl (Nat.le_of_ble_eq_true rfl) kc1 kc2 (ctX12_item e5 ?_)
  show pm_G g 8 [(0, .ref x0), (1, .int x1), (2, .long x2), (4, .int x4)] [.int v4] h (pm_sz h - pm_sz h0) (pm_us h - pm_us h0)
  refine pm_istore (lv' := [(5, .int v4), (0, .ref x0), (1, .int x1), (2, .long x2), (4, .int x4)]) C dX11_grow_8 (pm_nl X (by decide)) rfl ?_
  refine pm_aload_n C dX11_grow_10 rfl rfl ?_
  obtain ⟨v6, e7, hf⟩ := pm_bd hf
  refine pm_getR C dX11_grow_11 flX11_20 rfl k1 e7 ?_
  refine pm_iload_n C dX11_grow_14 rfl rfl ?_
  obtain ⟨v8, e9, hf⟩ := pm_bd hf
  refine pm_callS (as := [.ref v6, .int x1]) (st := []) C X dX11_grow_15 lnX11_49 myX12_item_ stX12_item_ ⟨by decide, by decide⟩ rfl rfl (Nat.le_of_ble_eq_true rfl) kc1 kc2 (ctX12_item_ e9 ?_)
  show pm_G g 18 [(5, .int v4), (0, .ref x0), (1, .int x1), (2, .long x2), (4, .int x4)] [.long v8] h (pm_sz h - pm_sz h0) (pm_us h - pm_us h0)
  refine pm_lconst (v := 0) C dX11_grow_18 (by decide) ?_
  refine pm_lcmp C dX11_grow_19 ?_
  refine pm_if_ge (tgt := 29) C dX11_grow_20 (by decide) (fun c10 => ?_) (fun c10 => ?_)
  · have hf := pm_it hf ((pm_lg_ge _ _).mp c10)
    refine pm_aload_n C dX11_grow_29 rfl rfl ?_
    refine pm_getR C dX11_grow_30 flX11_20 rfl k1 e7 ?_
    refine pm_iload_n C dX11_grow_33 rfl rfl ?_
    obtain ⟨v11, e12, hf⟩ := pm_bd hf
    refine pm_callS (as := [.ref v6, .int x1]) (st := []) C X dX11_grow_34 lnX11_49 myX12_item_ stX12_item_ ⟨by decide, by decide⟩ rfl rfl (Nat.le_of_ble_eq_true rfl) kc1 kc2 (ctX12_item_ e12 ?_)
    show pm_G g 37 [(5, .int v4), (0, .ref x0), (1, .int x1), (2, .long x2), (4, .int x4)] [.long v11] h (pm_sz h - pm_sz h0) (pm_us h - pm_us h0)
    exact pa_join K0 (pm_sub [1, 2, 3, 4, 0] rfl (bX11_grow_37 C X (m0.trans (pm_S3.le K0)) hf q))
  · have hf := pm_ie hf ((fun z => c10 ((pm_lg_ge _ _).mpr z)))
    refine pm_ldc2 C dX11_grow_23 cnX11_52 ?_
    refine pm_goto (tgt := 37) C dX11_grow_26 (by decide) ?_
    exact pa_join K0 (pm_sub [1, 2, 3, 4, 0] rfl (bX11_grow_37 C X (m0.trans (pm_S3.le K0)) hf q))
set_option maxHeartbeats 4000000 in
set_option maxRecDepth 100000 in
theorem ctX11_grow {l : Launch} {G : pm_Gl} {h : pm_H} {a0 : Nat} {p1 : Int32} {p2 : Int64} {p3 : Int32} {r : (Int32 × pm_H)} {Qr : Option Value → pm_H → Prop} (hf : fX11_grow h a0 p1 p2 p3 = some r) (q : Qr (some (.int r.1)) r.2) : pm_Ct l G mX11_grow [.ref a0, .int p1, .long p2, .int p3] h (pm_sz r.2 - pm_sz h) (pm_us r.2 - pm_us h) Qr := by
  refine pm_body pnX11 (Nat.le_of_ble_eq_true rfl) (fun g C X => ?_)
  have C : pm_C g cX11_grow RX11 := C
  show pm_G g 0 [(0, .ref a0), (1, .int p1), (2, .long p2), (4, .int p3)] [] h 0 0
  unfold fX11_grow at hf
  exact pa_start (pm_sub [0, 1, 2, 3] rfl (bX11_grow_0 C X (pm_Le.rf h) hf q))
theorem dX5_begin_0 : decode cX5_begin 0 = .ok (.aload_n 0, 1) := by decide +kernel
theorem dX5_begin_1 : decode cX5_begin 1 = .ok (.invokevirtual 68, 3) := by decide +kernel
theorem dX5_begin_4 : decode cX5_begin 4 = .ok (.aload_n 0, 1) := by decide +kernel
theorem dX5_begin_5 : decode cX5_begin 5 = .ok (.iconst 1, 1) := by decide +kernel
theorem dX5_begin_6 : decode cX5_begin 6 = .ok (.putfield 55, 3) := by decide +kernel
theorem dX5_begin_9 : decode cX5_begin 9 = .ok (.aload_n 0, 1) := by decide +kernel
theorem dX5_begin_10 : decode cX5_begin 10 = .ok (.iconst 0, 1) := by decide +kernel
theorem dX5_begin_11 : decode cX5_begin 11 = .ok (.putfield 78, 3) := by decide +kernel
theorem dX5_begin_14 : decode cX5_begin 14 = .ok (.aload_n 0, 1) := by decide +kernel
theorem dX5_begin_15 : decode cX5_begin 15 = .ok (.getfield 24, 3) := by decide +kernel
theorem dX5_begin_18 : decode cX5_begin 18 = .ok (.iload_n 1, 1) := by decide +kernel
theorem dX5_begin_19 : decode cX5_begin 19 = .ok (.invokevirtual 84, 3) := by decide +kernel
theorem dX5_begin_22 : decode cX5_begin 22 = .ok (.astore 4, 2) := by decide +kernel
theorem dX5_begin_24 : decode cX5_begin 24 = .ok (.iconst 0, 1) := by decide +kernel
theorem dX5_begin_25 : decode cX5_begin 25 = .ok (.istore 5, 2) := by decide +kernel
theorem dX5_begin_27 : decode cX5_begin 27 = .ok (.iload 5, 2) := by decide +kernel
theorem dX5_begin_29 : decode cX5_begin 29 = .ok (.iload_n 3, 1) := by decide +kernel
theorem dX5_begin_30 : decode cX5_begin 30 = .ok (.if_icmp .ge 36, 3) := by decide +kernel
theorem dX5_begin_33 : decode cX5_begin 33 = .ok (.aload_n 0, 1) := by decide +kernel
theorem dX5_begin_34 : decode cX5_begin 34 = .ok (.getfield 15, 3) := by decide +kernel
theorem dX5_begin_37 : decode cX5_begin 37 = .ok (.iload 5, 2) := by decide +kernel
theorem dX5_begin_39 : decode cX5_begin 39 = .ok (.aload 4, 2) := by decide +kernel
theorem dX5_begin_41 : decode cX5_begin 41 = .ok (.iconst 2, 1) := by decide +kernel
theorem dX5_begin_42 : decode cX5_begin 42 = .ok (.iload 5, 2) := by decide +kernel
theorem dX5_begin_44 : decode cX5_begin 44 = .ok (.iadd, 1) := by decide +kernel
theorem dX5_begin_45 : decode cX5_begin 45 = .ok (.invokestatic 88, 3) := by decide +kernel
theorem dX5_begin_48 : decode cX5_begin 48 = .ok (.aload_n 2, 1) := by decide +kernel
theorem dX5_begin_49 : decode cX5_begin 49 = .ok (.iload 5, 2) := by decide +kernel
theorem dX5_begin_51 : decode cX5_begin 51 = .ok (.invokestatic 92, 3) := by decide +kernel
theorem dX5_begin_54 : decode cX5_begin 54 = .ok (.invokestatic 95, 3) := by decide +kernel
theorem dX5_begin_57 : decode cX5_begin 57 = .ok (.invokestatic 99, 3) := by decide +kernel
theorem dX5_begin_60 : decode cX5_begin 60 = .ok (.iinc 5 1, 3) := by decide +kernel
theorem dX5_begin_63 : decode cX5_begin 63 = .ok (.goto (-36), 3) := by decide +kernel
theorem dX5_begin_66 : decode cX5_begin 66 = .ok (.aload_n 0, 1) := by decide +kernel
theorem dX5_begin_67 : decode cX5_begin 67 = .ok (.iload_n 1, 1) := by decide +kernel
theorem dX5_begin_68 : decode cX5_begin 68 = .ok (.iconst 0, 1) := by decide +kernel
theorem dX5_begin_69 : decode cX5_begin 69 = .ok (.invokevirtual 103, 3) := by decide +kernel
theorem dX5_begin_72 : decode cX5_begin 72 = .ok (.aload_n 0, 1) := by decide +kernel
theorem dX5_begin_73 : decode cX5_begin 73 = .ok (.invokevirtual 107, 3) := by decide +kernel
theorem dX5_begin_76 : decode cX5_begin 76 = .ok (.return_, 1) := by decide +kernel
noncomputable def tX5_begin_0 (x0 : Nat) (x1 : Int32) (x2 : Nat) (x3 : Int32) (h : pm_H) : Option (((Nat × Int32 × Nat × Int32 × pm_H) ⊕ (Nat × Int32 × Nat × Int32 × Nat × Int32 × pm_H) ⊕ (pm_H)) ⊕ pm_H) := if pm_kd h x0 = 5 then (fX5_clearFrames h x0).bind fun v2 => if pm_kd v2 x0 = 5 then (pm_R (pm_setI (pm_setI v2 x0 0 1) x0 2 0) x0 8).bind fun v6 => if pm_kd (pm_setI (pm_setI v2 x0 0 1) x0 2 0) v6 = 10 then (fX10_shapeOf (pm_setI (pm_setI v2 x0 0 1) x0 2 0) v6 x1).bind fun v9 => some (.inl (.inr (.inl ((x0, x1, x2, x3, v9, 0, pm_setI (pm_setI v2 x0 0 1) x0 2 0))))) else none else none else none
noncomputable def tX5_begin_27 (x0 : Nat) (x1 : Int32) (x2 : Nat) (x3 : Int32) (x4 : Nat) (x5 : Int32) (h : pm_H) : Option (((Nat × Int32 × Nat × Int32 × pm_H) ⊕ (Nat × Int32 × Nat × Int32 × Nat × Int32 × pm_H) ⊕ (pm_H)) ⊕ pm_H) := if x3 ≤ x5 then (if pm_kd h x0 = 5 then (fX5_enter h x0 x1 0).bind fun v13 => if pm_kd v13 x0 = 5 then (fX5_settle v13 x0).bind fun v17 => some (.inl (.inr (.inr (v17)))) else none else none) else (if pm_kd h x0 = 5 then (pm_R h x0 10).bind fun v20 => (fX12_item h x4 (2 + x5)).bind fun v22 => (fX12_item_ h x2 x5).bind fun v24 => pm_let (fX5_toldBits v22 v24) fun v26 => (fX12_setItem_ h v20 x5 v26).bind fun v28 => pm_let (x5 + 1) fun y31 => some (.inl (.inr (.inl ((x0, x1, x2, x3, x4, y31, v28))))) else none)
noncomputable def tX5_begin_76 (h : pm_H) : Option (((Nat × Int32 × Nat × Int32 × pm_H) ⊕ (Nat × Int32 × Nat × Int32 × Nat × Int32 × pm_H) ⊕ (pm_H)) ⊕ pm_H) := some (.inr (h))
noncomputable def sX5_begin : ((Nat × Int32 × Nat × Int32 × pm_H) ⊕ (Nat × Int32 × Nat × Int32 × Nat × Int32 × pm_H) ⊕ (pm_H)) → Option (((Nat × Int32 × Nat × Int32 × pm_H) ⊕ (Nat × Int32 × Nat × Int32 × Nat × Int32 × pm_H) ⊕ (pm_H)) ⊕ pm_H) := fun z => match z with
  | .inl (x0, x1, x2, x3, h) => tX5_begin_0 x0 x1 x2 x3 h
  | .inr (.inl (x0, x1, x2, x3, x4, x5, h)) => tX5_begin_27 x0 x1 x2 x3 x4 x5 h
  | .inr (.inr h) => tX5_begin_76 h
noncomputable def fX5_begin (h : pm_H) (a0 : Nat) (p1 : Int32) (p2 : Nat) (p3 : Int32) : Option pm_H := pm_lim sX5_begin (.inl ((a0, p1, p2, p3, h)))
set_option maxHeartbeats 4000000 in
set_option maxRecDepth 100000 in
theorem mlX5_begin {r : pm_H} : ∀ n : Nat, (∀ (x0 : Nat) (x1 : Int32) (x2 : Nat) (x3 : Int32) (h : pm_H), pm_iter sX5_begin n (.inl (x0, x1, x2, x3, h)) = some r → pm_Le h r) ∧ (∀ (x0 : Nat) (x1 : Int32) (x2 : Nat) (x3 : Int32) (x4 : Nat) (x5 : Int32) (h : pm_H), pm_iter sX5_begin n (.inr (.inl (x0, x1, x2, x3, x4, x5, h))) = some r → pm_Le h r) ∧ (∀ (h : pm_H), pm_iter sX5_begin n (.inr (.inr h)) = some r → pm_Le h r) := by
  intro n
  induction n with
  | zero => exact ⟨fun _ _ _ _ _ hf => (by cases hf), fun _ _ _ _ _ _ _ hf => (by cases hf), fun  _ hf => (by cases hf)⟩
  | succ n ih =>
    refine ⟨fun x0 x1 x2 x3 h hf => ?_, ?_⟩
    · obtain ⟨y, hf, hi⟩ := pm_iter_s hf
      have hf : tX5_begin_0 x0 x1 x2 x3 h = some y := hf
      unfold tX5_begin_0 at hf
      have K0 := pm_S3.rf h
      obtain ⟨k1, hf⟩ := pm_if hf
      obtain ⟨v2, e3, hf⟩ := pm_bd hf
      have K4 := pm_S3.trans (kpX5_clearFrames e3) K0
      obtain ⟨k5, hf⟩ := pm_if hf
      obtain ⟨v6, e7, hf⟩ := pm_bd hf
      obtain ⟨k8, hf⟩ := pm_if hf
      obtain ⟨v9, e10, hf⟩ := pm_bd hf
      cases hf
      exact (pm_S3.le (pm_S3I (pm_S3I K4))).trans (ih.2.1 x0 x1 x2 x3 v9 0 (pm_setI (pm_setI v2 x0 0 1) x0 2 0) hi)
    refine ⟨fun x0 x1 x2 x3 x4 x5 h hf => ?_, ?_⟩
    · obtain ⟨y, hf, hi⟩ := pm_iter_s hf
      have hf : tX5_begin_27 x0 x1 x2 x3 x4 x5 h = some y := hf
      unfold tX5_begin_27 at hf
      have K0 := pm_S3.rf h
      by_cases c11 : x3 ≤ x5
      · have hf := pm_it hf c11
        obtain ⟨k12, hf⟩ := pm_if hf
        obtain ⟨v13, e14, hf⟩ := pm_bd hf
        have K15 := pm_S3.trans (kpX5_enter e14) K0
        obtain ⟨k16, hf⟩ := pm_if hf
        obtain ⟨v17, e18, hf⟩ := pm_bd hf
        cases hf
        exact ((pm_S3.le K15).trans (moX5_settle e18)).trans (ih.2.2 v17 hi)
      · have hf := pm_ie hf c11
        obtain ⟨k19, hf⟩ := pm_if hf
        obtain ⟨v20, e21, hf⟩ := pm_bd hf
        obtain ⟨v22, e23, hf⟩ := pm_bd hf
        obtain ⟨v24, e25, hf⟩ := pm_bd hf
        obtain ⟨v26, e27, hf⟩ := pm_lt hf
        obtain ⟨v28, e29, hf⟩ := pm_bd hf
        have K30 := pm_S3.trans (kpX12_setItem_ e29) K0
        obtain ⟨y31, e32, hf⟩ := pm_lt hf
        cases hf
        exact (pm_S3.le K30).trans (ih.2.1 x0 x1 x2 x3 x4 y31 v28 hi)
    refine fun h hf => ?_
    obtain ⟨y, hf, hi⟩ := pm_iter_s hf
    have hf : tX5_begin_76 h = some y := hf
    unfold tX5_begin_76 at hf
    have K0 := pm_S3.rf h
    have hf := Option.some.inj hf
    subst hf
    have hi := Option.some.inj (show some _ = some r from hi)
    subst hi
    exact pm_S3.le K0
set_option maxHeartbeats 4000000 in
set_option maxRecDepth 100000 in
theorem moX5_begin {h : pm_H} {a0 : Nat} {p1 : Int32} {p2 : Nat} {p3 : Int32} {r : pm_H} (hf : fX5_begin h a0 p1 p2 p3 = some r) : pm_Le h r := by
  unfold fX5_begin at hf
  have K0 := pm_S3.rf h
  obtain ⟨n, hn⟩ := pm_lim_iter hf
  exact (mlX5_begin n).1 a0 p1 p2 p3 h hn
set_option maxHeartbeats 4000000 in
set_option maxRecDepth 100000 in
theorem lpX5_begin {g : pm_Gm} {l : Launch} {G : pm_Gl} {Qr : Option Value → pm_H → Prop} (C : pm_C g cX5_begin RX5) {h0 : pm_H} {r : pm_H} (X : pm_X g l G mX5_begin (pm_sz r - pm_sz h0) (pm_us r - pm_us h0) Qr) (q : Qr none r) : ∀ n : Nat, (∀ (x0 : Nat) (x1 : Int32) (x2 : Nat) (x3 : Int32) (h : pm_H), pm_Le h0 h → pm_iter sX5_begin n (.inl (x0, x1, x2, x3, h)) = some r → pm_G g 0 [(0, .ref x0), (1, .int x1), (2, .ref x2), (3, .int x3)] [] h (pm_sz h - pm_sz h0) (pm_us h - pm_us h0)) ∧ (∀ (x0 : Nat) (x1 : Int32) (x2 : Nat) (x3 : Int32) (x4 : Nat) (x5 : Int32) (h : pm_H), pm_Le h0 h → pm_iter sX5_begin n (.inr (.inl (x0, x1, x2, x3, x4, x5, h))) = some r → pm_G g 27 [(0, .ref x0), (1, .int x1), (2, .ref x2), (3, .int x3), (4, .ref x4), (5, .int x5)] [] h (pm_sz h - pm_sz h0) (pm_us h - pm_us h0)) ∧ (∀ (h : pm_H), pm_Le h0 h → pm_iter sX5_begin n (.inr (.inr h)) = some r → pm_G g 76 [] [] h (pm_sz h - pm_sz h0) (pm_us h - pm_us h0)) := by
  intro n
  induction n with
  | zero => exact ⟨fun _ _ _ _ _ _ hf => (by cases hf), fun _ _ _ _ _ _ _ _ hf => (by cases hf), fun  _ _ hf => (by cases hf)⟩
  | succ n ih =>
    refine ⟨fun x0 x1 x2 x3 h m0 hf => ?_, ?_⟩
    · have le0 := (mlX5_begin (n + 1)).1 x0 x1 x2 x3 h hf
      have kc1 := Nat.sub_le_sub_right le0.1 (pm_sz h0)
      have kc2 := Nat.sub_le_sub_right le0.2 (pm_us h0)
      have K0 := pm_S3.rf h
      obtain ⟨y, hf, hi⟩ := pm_iter_s hf
      have hf : tX5_begin_0 x0 x1 x2 x3 h = some y := hf
      unfold tX5_begin_0 at hf
      refine pm_aload_n C dX5_begin_0 rfl rfl ?_
      obtain ⟨k1, hf⟩ := pm_if hf
      obtain ⟨v2, e3, hf⟩ := pm_bd hf
      refine pm_callV (as := []) (st := []) C X dX5_begin_1 lnX5_68 myX5_clearFrames viX5_clearFrames ⟨by decide, by decide⟩ rfl rfl k1 (Nat.le_of_ble_eq_true rfl) kc1 kc2 (ctX5_clearFrames e3 ?_)
      have K4 := pm_S3.trans (kpX5_clearFrames e3) K0
      show pm_G g 4 [(0, .ref x0), (1, .int x1), (2, .ref x2), (3, .int x3)] [] v2 (pm_sz h - pm_sz h0) (pm_us h - pm_us h0)
      refine pm_aload_n C dX5_begin_4 rfl rfl ?_
      refine pm_iconst (v := 1) C dX5_begin_5 (by decide) ?_
      obtain ⟨k5, hf⟩ := pm_if hf
      refine pm_putI C dX5_begin_6 flX5_55 rfl rfl k5 rfl rfl ?_
      refine pm_aload_n C dX5_begin_9 rfl rfl ?_
      refine pm_iconst (v := 0) C dX5_begin_10 (by decide) ?_
      refine pm_putI C dX5_begin_11 flX5_78 rfl rfl k5 rfl rfl ?_
      refine pm_aload_n C dX5_begin_14 rfl rfl ?_
      obtain ⟨v6, e7, hf⟩ := pm_bd hf
      refine pm_getR C dX5_begin_15 flX5_24 rfl k5 e7 ?_
      refine pm_iload_n C dX5_begin_18 rfl rfl ?_
      obtain ⟨k8, hf⟩ := pm_if hf
      obtain ⟨v9, e10, hf⟩ := pm_bd hf
      refine pm_callV (as := [.int x1]) (st := []) C X dX5_begin_19 lnX5_84 myX10_shapeOf viX10_shapeOf ⟨by decide, by decide⟩ rfl rfl k8 (Nat.le_of_ble_eq_true rfl) kc1 kc2 (ctX10_shapeOf e10 ?_)
      show pm_G g 22 [(0, .ref x0), (1, .int x1), (2, .ref x2), (3, .int x3)] [.ref v9] (pm_setI (pm_setI v2 x0 0 1) x0 2 0) (pm_sz h - pm_sz h0) (pm_us h - pm_us h0)
      refine pm_astore (lv' := [(4, .ref v9), (0, .ref x0), (1, .int x1), (2, .ref x2), (3, .int x3)]) C dX5_begin_22 (pm_nl X (by decide)) rfl ?_
      refine pm_iconst (v := 0) C dX5_begin_24 (by decide) ?_
      refine pm_istore (lv' := [(5, .int 0), (4, .ref v9), (0, .ref x0), (1, .int x1), (2, .ref x2), (3, .int x3)]) C dX5_begin_25 (pm_nl X (by decide)) rfl ?_
      cases hf
      exact pa_join (pm_S3I (pm_S3I K4)) (pm_sub [2, 3, 4, 5, 1, 0] rfl (ih.2.1 x0 x1 x2 x3 v9 0 (pm_setI (pm_setI v2 x0 0 1) x0 2 0) (m0.trans (pm_S3.le (pm_S3I (pm_S3I K4)))) hi))
    refine ⟨fun x0 x1 x2 x3 x4 x5 h m0 hf => ?_, ?_⟩
    · have le0 := (mlX5_begin (n + 1)).2.1 x0 x1 x2 x3 x4 x5 h hf
      have kc1 := Nat.sub_le_sub_right le0.1 (pm_sz h0)
      have kc2 := Nat.sub_le_sub_right le0.2 (pm_us h0)
      have K0 := pm_S3.rf h
      obtain ⟨y, hf, hi⟩ := pm_iter_s hf
      have hf : tX5_begin_27 x0 x1 x2 x3 x4 x5 h = some y := hf
      unfold tX5_begin_27 at hf
      refine pm_iload C dX5_begin_27 rfl ?_
      refine pm_iload_n C dX5_begin_29 rfl rfl ?_
      refine pm_icmp_ge (tgt := 66) C dX5_begin_30 (by decide) (fun c11 => ?_) (fun c11 => ?_)
      · have hf := pm_it hf c11
        refine pm_aload_n C dX5_begin_66 rfl rfl ?_
        refine pm_iload_n C dX5_begin_67 rfl rfl ?_
        refine pm_iconst (v := 0) C dX5_begin_68 (by decide) ?_
        obtain ⟨k12, hf⟩ := pm_if hf
        obtain ⟨v13, e14, hf⟩ := pm_bd hf
        refine pm_callV (as := [.int x1, .int 0]) (st := []) C X dX5_begin_69 lnX5_103 myX5_enter viX5_enter ⟨by decide, by decide⟩ rfl rfl k12 (Nat.le_of_ble_eq_true rfl) kc1 kc2 (ctX5_enter e14 ?_)
        have K15 := pm_S3.trans (kpX5_enter e14) K0
        show pm_G g 72 [(0, .ref x0), (1, .int x1), (2, .ref x2), (3, .int x3), (4, .ref x4), (5, .int x5)] [] v13 (pm_sz h - pm_sz h0) (pm_us h - pm_us h0)
        refine pm_aload_n C dX5_begin_72 rfl rfl ?_
        obtain ⟨k16, hf⟩ := pm_if hf
        obtain ⟨v17, e18, hf⟩ := pm_bd hf
        cases hf
        refine pm_callV (as := []) (st := []) C X dX5_begin_73 lnX5_107 myX5_settle viX5_settle ⟨by decide, by decide⟩ rfl rfl k16 (Nat.le_of_ble_eq_true rfl) (pa_le1 K15 m0 (moX5_settle e18) ((mlX5_begin n).2.2 v17 hi)) (pa_le2 K15 m0 (moX5_settle e18) ((mlX5_begin n).2.2 v17 hi)) (ctX5_settle e18 ?_)
        show pm_G g 76 [(0, .ref x0), (1, .int x1), (2, .ref x2), (3, .int x3), (4, .ref x4), (5, .int x5)] [] v17 (pm_sz h - pm_sz h0 + (pm_sz v17 - pm_sz v13)) (pm_us h - pm_us h0 + (pm_us v17 - pm_us v13))
        refine pa_fin K15 m0 (moX5_settle e18) ?_
        exact pm_sub [] rfl (ih.2.2 v17 ((m0.trans (pm_S3.le K15)).trans (moX5_settle e18)) hi)
      · have hf := pm_ie hf c11
        refine pm_aload_n C dX5_begin_33 rfl rfl ?_
        obtain ⟨k19, hf⟩ := pm_if hf
        obtain ⟨v20, e21, hf⟩ := pm_bd hf
        refine pm_getR C dX5_begin_34 flX5_15 rfl k19 e21 ?_
        refine pm_iload C dX5_begin_37 rfl ?_
        refine pm_aload C dX5_begin_39 rfl ?_
        refine pm_iconst (v := 2) C dX5_begin_41 (by decide) ?_
        refine pm_iload C dX5_begin_42 rfl ?_
        refine pm_iadd C dX5_begin_44 ?_
        obtain ⟨v22, e23, hf⟩ := pm_bd hf
        refine pm_callS (as := [.ref x4, .int (2 + x5)]) (st := [.int x5, .ref v20]) C X dX5_begin_45 lnX5_88 myX12_item stX12_item ⟨by decide, by decide⟩ rfl rfl (Nat.le_of_ble_eq_true rfl) kc1 kc2 (ctX12_item e23 ?_)
        show pm_G g 48 [(0, .ref x0), (1, .int x1), (2, .ref x2), (3, .int x3), (4, .ref x4), (5, .int x5)] [.int v22, .int x5, .ref v20] h (pm_sz h - pm_sz h0) (pm_us h - pm_us h0)
        refine pm_aload_n C dX5_begin_48 rfl rfl ?_
        refine pm_iload C dX5_begin_49 rfl ?_
        obtain ⟨v24, e25, hf⟩ := pm_bd hf
        refine pm_callS (as := [.ref x2, .int x5]) (st := [.int v22, .int x5, .ref v20]) C X dX5_begin_51 lnX5_92 myX12_item_ stX12_item_ ⟨by decide, by decide⟩ rfl rfl (Nat.le_of_ble_eq_true rfl) kc1 kc2 (ctX12_item_ e25 ?_)
        show pm_G g 54 [(0, .ref x0), (1, .int x1), (2, .ref x2), (3, .int x3), (4, .ref x4), (5, .int x5)] [.long v24, .int v22, .int x5, .ref v20] h (pm_sz h - pm_sz h0) (pm_us h - pm_us h0)
        obtain ⟨v26, e27, hf⟩ := pm_lt hf
        refine pm_callS (as := [.int v22, .long v24]) (st := [.int x5, .ref v20]) C X dX5_begin_54 lnX5_95 myX5_toldBits stX5_toldBits ⟨by decide, by decide⟩ rfl rfl (Nat.le_of_ble_eq_true rfl) kc1 kc2 (ctX5_toldBits e27 ?_)
        show pm_G g 57 [(0, .ref x0), (1, .int x1), (2, .ref x2), (3, .int x3), (4, .ref x4), (5, .int x5)] [.long v26, .int x5, .ref v20] h (pm_sz h - pm_sz h0) (pm_us h - pm_us h0)
        obtain ⟨v28, e29, hf⟩ := pm_bd hf
        refine pm_callS (as := [.ref v20, .int x5, .long v26]) (st := []) C X dX5_begin_57 lnX5_99 myX12_setItem_ stX12_setItem_ ⟨by decide, by decide⟩ rfl rfl (Nat.le_of_ble_eq_true rfl) kc1 kc2 (ctX12_setItem_ e29 ?_)
        have K30 := pm_S3.trans (kpX12_setItem_ e29) K0
        show pm_G g 60 [(0, .ref x0), (1, .int x1), (2, .ref x2), (3, .int x3), (4, .ref x4), (5, .int x5)] [] v28 (pm_sz h - pm_sz h0) (pm_us h - pm_us h0)
        obtain ⟨y31, e32, hf⟩ := pm_lt hf
        refine pm_iinc (v := y31) (lv' := [(5, .int y31), (0, .ref x0), (1, .int x1), (2, .ref x2), (3, .int x3), (4, .ref x4)]) C dX5_begin_60 rfl ((congrArg (x5 + ·) (by decide : Int32.ofInt 1 = 1)).trans e32) (pm_nl X (by decide)) rfl ?_
        refine pm_goto (tgt := 27) C dX5_begin_63 (by decide) ?_
        cases hf
        exact pa_join K30 (pm_sub [1, 2, 3, 4, 5, 0] rfl (ih.2.1 x0 x1 x2 x3 x4 y31 v28 (m0.trans (pm_S3.le K30)) hi))
    refine fun h m0 hf => ?_
    have le0 := (mlX5_begin (n + 1)).2.2 h hf
    have kc1 := Nat.sub_le_sub_right le0.1 (pm_sz h0)
    have kc2 := Nat.sub_le_sub_right le0.2 (pm_us h0)
    have K0 := pm_S3.rf h
    obtain ⟨y, hf, hi⟩ := pm_iter_s hf
    have hf : tX5_begin_76 h = some y := hf
    unfold tX5_begin_76 at hf
    have hf := Option.some.inj hf
    subst hf
    have hi := Option.some.inj (show some _ = some r from hi)
    subst hi
    exact pm_vret C X dX5_begin_76 rfl kc1 kc2 q
set_option maxHeartbeats 4000000 in
set_option maxRecDepth 100000 in
theorem ctX5_begin {l : Launch} {G : pm_Gl} {h : pm_H} {a0 : Nat} {p1 : Int32} {p2 : Nat} {p3 : Int32} {r : pm_H} {Qr : Option Value → pm_H → Prop} (hf : fX5_begin h a0 p1 p2 p3 = some r) (q : Qr none r) : pm_Ct l G mX5_begin [.ref a0, .int p1, .ref p2, .int p3] h (pm_sz r - pm_sz h) (pm_us r - pm_us h) Qr := by
  refine pm_body pnX5 (Nat.le_of_ble_eq_true rfl) (fun g C X => ?_)
  have C : pm_C g cX5_begin RX5 := C
  show pm_G g 0 [(0, .ref a0), (1, .int p1), (2, .ref p2), (3, .int p3)] [] h 0 0
  unfold fX5_begin at hf
  obtain ⟨n, hn⟩ := pm_lim_iter hf
  exact pa_start (pm_sub [0, 1, 2, 3] rfl ((lpX5_begin C X q n).1 a0 p1 p2 p3 h (pm_Le.rf h) hn))
