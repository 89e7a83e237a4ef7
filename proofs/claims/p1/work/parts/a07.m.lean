theorem dX1_check_0 : decode cX1_check 0 = .ok (.aload_n 0, 1) := by decide +kernel
theorem dX1_check_1 : decode cX1_check 1 = .ok (.aload_n 1, 1) := by decide +kernel
theorem dX1_check_2 : decode cX1_check 2 = .ok (.putfield 40, 3) := by decide +kernel
theorem dX1_check_5 : decode cX1_check 5 = .ok (.aload_n 0, 1) := by decide +kernel
theorem dX1_check_6 : decode cX1_check 6 = .ok (.iconst 0, 1) := by decide +kernel
theorem dX1_check_7 : decode cX1_check 7 = .ok (.putfield 53, 3) := by decide +kernel
theorem dX1_check_10 : decode cX1_check 10 = .ok (.aload_n 0, 1) := by decide +kernel
theorem dX1_check_11 : decode cX1_check 11 = .ok (.iconst (-1), 1) := by decide +kernel
theorem dX1_check_12 : decode cX1_check 12 = .ok (.putfield 57, 3) := by decide +kernel
theorem dX1_check_15 : decode cX1_check 15 = .ok (.aload_n 0, 1) := by decide +kernel
theorem dX1_check_16 : decode cX1_check 16 = .ok (.aload_n 1, 1) := by decide +kernel
theorem dX1_check_17 : decode cX1_check 17 = .ok (.iconst 0, 1) := by decide +kernel
theorem dX1_check_18 : decode cX1_check 18 = .ok (.invokevirtual 60, 3) := by decide +kernel
theorem dX1_check_21 : decode cX1_check 21 = .ok (.newarray .boolean, 2) := by decide +kernel
theorem dX1_check_23 : decode cX1_check 23 = .ok (.putfield 9, 3) := by decide +kernel
theorem dX1_check_26 : decode cX1_check 26 = .ok (.iload_n 2, 1) := by decide +kernel
theorem dX1_check_27 : decode cX1_check 27 = .ok (.ifCond .lt 10, 3) := by decide +kernel
theorem dX1_check_30 : decode cX1_check 30 = .ok (.aload_n 0, 1) := by decide +kernel
theorem dX1_check_31 : decode cX1_check 31 = .ok (.bipush 40, 2) := by decide +kernel
theorem dX1_check_33 : decode cX1_check 33 = .ok (.iload_n 2, 1) := by decide +kernel
theorem dX1_check_34 : decode cX1_check 34 = .ok (.invokevirtual 66, 3) := by decide +kernel
theorem dX1_check_37 : decode cX1_check 37 = .ok (.aload_n 0, 1) := by decide +kernel
theorem dX1_check_38 : decode cX1_check 38 = .ok (.getfield 53, 3) := by decide +kernel
theorem dX1_check_41 : decode cX1_check 41 = .ok (.ifCond .ne 7, 3) := by decide +kernel
theorem dX1_check_44 : decode cX1_check 44 = .ok (.aload_n 0, 1) := by decide +kernel
theorem dX1_check_45 : decode cX1_check 45 = .ok (.invokevirtual 70, 3) := by decide +kernel
theorem dX1_check_48 : decode cX1_check 48 = .ok (.aload_n 0, 1) := by decide +kernel
theorem dX1_check_49 : decode cX1_check 49 = .ok (.getfield 53, 3) := by decide +kernel
theorem dX1_check_52 : decode cX1_check 52 = .ok (.ifCond .ne 7, 3) := by decide +kernel
theorem dX1_check_55 : decode cX1_check 55 = .ok (.aload_n 0, 1) := by decide +kernel
theorem dX1_check_56 : decode cX1_check 56 = .ok (.invokevirtual 73, 3) := by decide +kernel
theorem dX1_check_59 : decode cX1_check 59 = .ok (.aload_n 0, 1) := by decide +kernel
theorem dX1_check_60 : decode cX1_check 60 = .ok (.getfield 53, 3) := by decide +kernel
theorem dX1_check_63 : decode cX1_check 63 = .ok (.ifCond .ne 7, 3) := by decide +kernel
theorem dX1_check_66 : decode cX1_check 66 = .ok (.aload_n 0, 1) := by decide +kernel
theorem dX1_check_67 : decode cX1_check 67 = .ok (.invokevirtual 76, 3) := by decide +kernel
theorem dX1_check_70 : decode cX1_check 70 = .ok (.aload_n 0, 1) := by decide +kernel
theorem dX1_check_71 : decode cX1_check 71 = .ok (.getfield 53, 3) := by decide +kernel
theorem dX1_check_74 : decode cX1_check 74 = .ok (.ifCond .ne 7, 3) := by decide +kernel
theorem dX1_check_77 : decode cX1_check 77 = .ok (.aload_n 0, 1) := by decide +kernel
theorem dX1_check_78 : decode cX1_check 78 = .ok (.invokevirtual 79, 3) := by decide +kernel
theorem dX1_check_81 : decode cX1_check 81 = .ok (.aload_n 0, 1) := by decide +kernel
theorem dX1_check_82 : decode cX1_check 82 = .ok (.getfield 53, 3) := by decide +kernel
theorem dX1_check_85 : decode cX1_check 85 = .ok (.ifCond .ne 7, 3) := by decide +kernel
theorem dX1_check_88 : decode cX1_check 88 = .ok (.aload_n 0, 1) := by decide +kernel
theorem dX1_check_89 : decode cX1_check 89 = .ok (.invokevirtual 82, 3) := by decide +kernel
theorem dX1_check_92 : decode cX1_check 92 = .ok (.aload_n 0, 1) := by decide +kernel
theorem dX1_check_93 : decode cX1_check 93 = .ok (.getfield 53, 3) := by decide +kernel
theorem dX1_check_96 : decode cX1_check 96 = .ok (.ifCond .ne 7, 3) := by decide +kernel
theorem dX1_check_99 : decode cX1_check 99 = .ok (.aload_n 0, 1) := by decide +kernel
theorem dX1_check_100 : decode cX1_check 100 = .ok (.invokevirtual 85, 3) := by decide +kernel
theorem dX1_check_103 : decode cX1_check 103 = .ok (.aload_n 0, 1) := by decide +kernel
theorem dX1_check_104 : decode cX1_check 104 = .ok (.getfield 53, 3) := by decide +kernel
theorem dX1_check_107 : decode cX1_check 107 = .ok (.ifCond .ne 7, 3) := by decide +kernel
theorem dX1_check_110 : decode cX1_check 110 = .ok (.aload_n 0, 1) := by decide +kernel
theorem dX1_check_111 : decode cX1_check 111 = .ok (.invokevirtual 88, 3) := by decide +kernel
theorem dX1_check_114 : decode cX1_check 114 = .ok (.aload_n 0, 1) := by decide +kernel
theorem dX1_check_115 : decode cX1_check 115 = .ok (.getfield 53, 3) := by decide +kernel
theorem dX1_check_118 : decode cX1_check 118 = .ok (.ifCond .ne 7, 3) := by decide +kernel
theorem dX1_check_121 : decode cX1_check 121 = .ok (.aload_n 0, 1) := by decide +kernel
theorem dX1_check_122 : decode cX1_check 122 = .ok (.invokevirtual 91, 3) := by decide +kernel
theorem dX1_check_125 : decode cX1_check 125 = .ok (.aload_n 0, 1) := by decide +kernel
theorem dX1_check_126 : decode cX1_check 126 = .ok (.getfield 53, 3) := by decide +kernel
theorem dX1_check_129 : decode cX1_check 129 = .ok (.ifCond .ne 7, 3) := by decide +kernel
theorem dX1_check_132 : decode cX1_check 132 = .ok (.aload_n 0, 1) := by decide +kernel
theorem dX1_check_133 : decode cX1_check 133 = .ok (.invokevirtual 94, 3) := by decide +kernel
theorem dX1_check_136 : decode cX1_check 136 = .ok (.return_, 1) := by decide +kernel
noncomputable def fX1_check_b136 (h : pm_H)  : Option pm_H := some h
noncomputable def fX1_check_b125 (h : pm_H) (x0 : Nat) : Option pm_H := if pm_kd h x0 = 1 then if (pm_I h x0 0) = 0 then ((fX1_makeBodies h x0).bind fun v53 => fX1_check_b136 v53) else (fX1_check_b136 h) else none
noncomputable def fX1_check_b114 (h : pm_H) (x0 : Nat) : Option pm_H := if pm_kd h x0 = 1 then if (pm_I h x0 0) = 0 then ((fX1_dataAreRight h x0).bind fun v48 => fX1_check_b125 v48 x0) else (fX1_check_b125 h x0) else none
noncomputable def fX1_check_b103 (h : pm_H) (x0 : Nat) : Option pm_H := if pm_kd h x0 = 1 then if (pm_I h x0 0) = 0 then ((fX1_elementsAreRight h x0).bind fun v43 => fX1_check_b114 v43 x0) else (fX1_check_b114 h x0) else none
noncomputable def fX1_check_b92 (h : pm_H) (x0 : Nat) : Option pm_H := if pm_kd h x0 = 1 then if (pm_I h x0 0) = 0 then ((fX1_globalsAreRight h x0).bind fun v38 => fX1_check_b103 v38 x0) else (fX1_check_b103 h x0) else none
noncomputable def fX1_check_b81 (h : pm_H) (x0 : Nat) : Option pm_H := if pm_kd h x0 = 1 then if (pm_I h x0 0) = 0 then ((fX1_startIsRight h x0).bind fun v34 => fX1_check_b92 v34 x0) else (fX1_check_b92 h x0) else none
noncomputable def fX1_check_b70 (h : pm_H) (x0 : Nat) : Option pm_H := if pm_kd h x0 = 1 then if (pm_I h x0 0) = 0 then ((fX1_exportsAreRight h x0).bind fun v29 => fX1_check_b81 v29 x0) else (fX1_check_b81 h x0) else none
noncomputable def fX1_check_b59 (h : pm_H) (x0 : Nat) : Option pm_H := if pm_kd h x0 = 1 then if (pm_I h x0 0) = 0 then ((fX1_memoryIsOne h x0).bind fun v24 => fX1_check_b70 v24 x0) else (fX1_check_b70 h x0) else none
noncomputable def fX1_check_b48 (h : pm_H) (x0 : Nat) : Option pm_H := if pm_kd h x0 = 1 then if (pm_I h x0 0) = 0 then ((fX1_limitsAreRight h x0).bind fun v19 => fX1_check_b59 v19 x0) else (fX1_check_b59 h x0) else none
noncomputable def fX1_check_b37 (h : pm_H) (x0 : Nat) : Option pm_H := if pm_kd h x0 = 1 then if (pm_I h x0 0) = 0 then ((fX1_typesAreThere h x0).bind fun v14 => fX1_check_b48 v14 x0) else (fX1_check_b48 h x0) else none
noncomputable def fX1_check_b23 (h : pm_H) (x0 : Nat) (x2 : Int32) (s0 : Nat) (s1 : Nat) : Option pm_H := if pm_kd h s1 = 1 then if x2 < 0 then (fX1_check_b37 (pm_setR h s1 4 (some s0)) x0) else (if pm_kd (pm_setR h s1 4 (some s0)) x0 = 1 then (fX1_failAt (pm_setR h s1 4 (some s0)) x0 40 x2).bind fun v9 => fX1_check_b37 v9 x0 else none) else none
noncomputable def fX1_check_b0 (h : pm_H) (x0 : Nat) (x1 : Nat) (x2 : Int32) : Option pm_H := if pm_kd h x0 = 1 then if pm_kd (pm_setI (pm_setI (pm_setR h x0 2 (some x1)) x0 0 0) x0 1 (-1)) x1 = 7 then (fX7_count (pm_setI (pm_setI (pm_setR h x0 2 (some x1)) x0 0 0) x0 1 (-1)) x1 0).bind fun v3 => if ¬ v3 < 0 ∧ v3.toNatClampNeg * 1 ≤ 536870912 then fX1_check_b23 (pm_new (pm_setI (pm_setI (pm_setR h x0 2 (some x1)) x0 0 0) x0 1 (-1)) 32 v3.toNatClampNeg) x0 x2 (pm_sz (pm_setI (pm_setI (pm_setR h x0 2 (some x1)) x0 0 0) x0 1 (-1))) x0 else none else none else none
noncomputable def fX1_check (h : pm_H) (a0 : Nat) (p1 : Nat) (p2 : Int32) : Option pm_H := fX1_check_b0 h a0 p1 p2
set_option maxHeartbeats 4000000 in
set_option maxRecDepth 100000 in
theorem moX1_check_b136 {h : pm_H}  {r : pm_H} (hf : fX1_check_b136 h  = some r) : pm_Le h r := by
  unfold fX1_check_b136 at hf
  have K0 := pm_S3.rf h
  have hf := Option.some.inj hf
  subst hf
  exact pm_S3.le K0
set_option maxHeartbeats 4000000 in
set_option maxRecDepth 100000 in
theorem moX1_check_b125 {h : pm_H} {x0 : Nat} {r : pm_H} (hf : fX1_check_b125 h x0 = some r) : pm_Le h r := by
  unfold fX1_check_b125 at hf
  have K0 := pm_S3.rf h
  obtain ⟨k51, hf⟩ := pm_if hf
  by_cases c52 : (pm_I h x0 0) = 0
  · have hf := pm_it hf c52
    obtain ⟨v53, e54, hf⟩ := pm_bd hf
    exact ((pm_S3.le K0).trans (moX1_makeBodies e54)).trans (moX1_check_b136 hf)
  · have hf := pm_ie hf c52
    exact (pm_S3.le K0).trans (moX1_check_b136 hf)
set_option maxHeartbeats 4000000 in
set_option maxRecDepth 100000 in
theorem moX1_check_b114 {h : pm_H} {x0 : Nat} {r : pm_H} (hf : fX1_check_b114 h x0 = some r) : pm_Le h r := by
  unfold fX1_check_b114 at hf
  have K0 := pm_S3.rf h
  obtain ⟨k46, hf⟩ := pm_if hf
  by_cases c47 : (pm_I h x0 0) = 0
  · have hf := pm_it hf c47
    obtain ⟨v48, e49, hf⟩ := pm_bd hf
    have K50 := pm_S3.trans (kpX1_dataAreRight e49) K0
    exact (pm_S3.le K50).trans (moX1_check_b125 hf)
  · have hf := pm_ie hf c47
    exact (pm_S3.le K0).trans (moX1_check_b125 hf)
set_option maxHeartbeats 4000000 in
set_option maxRecDepth 100000 in
theorem moX1_check_b103 {h : pm_H} {x0 : Nat} {r : pm_H} (hf : fX1_check_b103 h x0 = some r) : pm_Le h r := by
  unfold fX1_check_b103 at hf
  have K0 := pm_S3.rf h
  obtain ⟨k41, hf⟩ := pm_if hf
  by_cases c42 : (pm_I h x0 0) = 0
  · have hf := pm_it hf c42
    obtain ⟨v43, e44, hf⟩ := pm_bd hf
    have K45 := pm_S3.trans (kpX1_elementsAreRight e44) K0
    exact (pm_S3.le K45).trans (moX1_check_b114 hf)
  · have hf := pm_ie hf c42
    exact (pm_S3.le K0).trans (moX1_check_b114 hf)
set_option maxHeartbeats 4000000 in
set_option maxRecDepth 100000 in
theorem moX1_check_b92 {h : pm_H} {x0 : Nat} {r : pm_H} (hf : fX1_check_b92 h x0 = some r) : pm_Le h r := by
  unfold fX1_check_b92 at hf
  have K0 := pm_S3.rf h
  obtain ⟨k36, hf⟩ := pm_if hf
  by_cases c37 : (pm_I h x0 0) = 0
  · have hf := pm_it hf c37
    obtain ⟨v38, e39, hf⟩ := pm_bd hf
    have K40 := pm_S3.trans (kpX1_globalsAreRight e39) K0
    exact (pm_S3.le K40).trans (moX1_check_b103 hf)
  · have hf := pm_ie hf c37
    exact (pm_S3.le K0).trans (moX1_check_b103 hf)
set_option maxHeartbeats 4000000 in
set_option maxRecDepth 100000 in
theorem moX1_check_b81 {h : pm_H} {x0 : Nat} {r : pm_H} (hf : fX1_check_b81 h x0 = some r) : pm_Le h r := by
  unfold fX1_check_b81 at hf
  have K0 := pm_S3.rf h
  obtain ⟨k32, hf⟩ := pm_if hf
  by_cases c33 : (pm_I h x0 0) = 0
  · have hf := pm_it hf c33
    obtain ⟨v34, e35, hf⟩ := pm_bd hf
    exact ((pm_S3.le K0).trans (moX1_startIsRight e35)).trans (moX1_check_b92 hf)
  · have hf := pm_ie hf c33
    exact (pm_S3.le K0).trans (moX1_check_b92 hf)
set_option maxHeartbeats 4000000 in
set_option maxRecDepth 100000 in
theorem moX1_check_b70 {h : pm_H} {x0 : Nat} {r : pm_H} (hf : fX1_check_b70 h x0 = some r) : pm_Le h r := by
  unfold fX1_check_b70 at hf
  have K0 := pm_S3.rf h
  obtain ⟨k27, hf⟩ := pm_if hf
  by_cases c28 : (pm_I h x0 0) = 0
  · have hf := pm_it hf c28
    obtain ⟨v29, e30, hf⟩ := pm_bd hf
    have K31 := pm_S3.trans (kpX1_exportsAreRight e30) K0
    exact (pm_S3.le K31).trans (moX1_check_b81 hf)
  · have hf := pm_ie hf c28
    exact (pm_S3.le K0).trans (moX1_check_b81 hf)
set_option maxHeartbeats 4000000 in
set_option maxRecDepth 100000 in
theorem moX1_check_b59 {h : pm_H} {x0 : Nat} {r : pm_H} (hf : fX1_check_b59 h x0 = some r) : pm_Le h r := by
  unfold fX1_check_b59 at hf
  have K0 := pm_S3.rf h
  obtain ⟨k22, hf⟩ := pm_if hf
  by_cases c23 : (pm_I h x0 0) = 0
  · have hf := pm_it hf c23
    obtain ⟨v24, e25, hf⟩ := pm_bd hf
    have K26 := pm_S3.trans (kpX1_memoryIsOne e25) K0
    exact (pm_S3.le K26).trans (moX1_check_b70 hf)
  · have hf := pm_ie hf c23
    exact (pm_S3.le K0).trans (moX1_check_b70 hf)
set_option maxHeartbeats 4000000 in
set_option maxRecDepth 100000 in
theorem moX1_check_b48 {h : pm_H} {x0 : Nat} {r : pm_H} (hf : fX1_check_b48 h x0 = some r) : pm_Le h r := by
  unfold fX1_check_b48 at hf
  have K0 := pm_S3.rf h
  obtain ⟨k17, hf⟩ := pm_if hf
  by_cases c18 : (pm_I h x0 0) = 0
  · have hf := pm_it hf c18
    obtain ⟨v19, e20, hf⟩ := pm_bd hf
    have K21 := pm_S3.trans (kpX1_limitsAreRight e20) K0
    exact (pm_S3.le K21).trans (moX1_check_b59 hf)
  · have hf := pm_ie hf c18
    exact (pm_S3.le K0).trans (moX1_check_b59 hf)
set_option maxHeartbeats 4000000 in
set_option maxRecDepth 100000 in
theorem moX1_check_b37 {h : pm_H} {x0 : Nat} {r : pm_H} (hf : fX1_check_b37 h x0 = some r) : pm_Le h r := by
  unfold fX1_check_b37 at hf
  have K0 := pm_S3.rf h
  obtain ⟨k12, hf⟩ := pm_if hf
  by_cases c13 : (pm_I h x0 0) = 0
  · have hf := pm_it hf c13
    obtain ⟨v14, e15, hf⟩ := pm_bd hf
    have K16 := pm_S3.trans (kpX1_typesAreThere e15) K0
    exact (pm_S3.le K16).trans (moX1_check_b48 hf)
  · have hf := pm_ie hf c13
    exact (pm_S3.le K0).trans (moX1_check_b48 hf)
set_option maxHeartbeats 4000000 in
set_option maxRecDepth 100000 in
theorem moX1_check_b23 {h : pm_H} {x0 : Nat} {x2 : Int32} {s0 : Nat} {s1 : Nat} {r : pm_H} (hf : fX1_check_b23 h x0 x2 s0 s1 = some r) : pm_Le h r := by
  unfold fX1_check_b23 at hf
  have K0 := pm_S3.rf h
  obtain ⟨k6, hf⟩ := pm_if hf
  by_cases c7 : x2 < 0
  · have hf := pm_it hf c7
    exact (pm_S3.le (pm_S3R K0)).trans (moX1_check_b37 hf)
  · have hf := pm_ie hf c7
    obtain ⟨k8, hf⟩ := pm_if hf
    obtain ⟨v9, e10, hf⟩ := pm_bd hf
    have K11 := pm_S3.trans (kpX1_failAt e10) (pm_S3R K0)
    exact (pm_S3.le K11).trans (moX1_check_b37 hf)
set_option maxHeartbeats 4000000 in
set_option maxRecDepth 100000 in
theorem moX1_check_b0 {h : pm_H} {x0 : Nat} {x1 : Nat} {x2 : Int32} {r : pm_H} (hf : fX1_check_b0 h x0 x1 x2 = some r) : pm_Le h r := by
  unfold fX1_check_b0 at hf
  have K0 := pm_S3.rf h
  obtain ⟨k1, hf⟩ := pm_if hf
  obtain ⟨k2, hf⟩ := pm_if hf
  obtain ⟨v3, e4, hf⟩ := pm_bd hf
  obtain ⟨u5, hf⟩ := pm_if hf
  exact ((pm_S3.le (pm_S3I (pm_S3I (pm_S3R K0)))).trans (pm_Le_new _ _ _)).trans (moX1_check_b23 hf)
set_option maxHeartbeats 4000000 in
set_option maxRecDepth 100000 in
theorem moX1_check {h : pm_H} {a0 : Nat} {p1 : Nat} {p2 : Int32} {r : pm_H} (hf : fX1_check h a0 p1 p2 = some r) : pm_Le h r := by
  unfold fX1_check at hf
  have K0 := pm_S3.rf h
  exact (pm_S3.le K0).trans (moX1_check_b0 hf)
set_option maxHeartbeats 4000000 in
set_option maxRecDepth 100000 in
theorem bX1_check_136 {g : pm_Gm} {l : Launch} {G : pm_Gl} {Qr : Option Value → pm_H → Prop} (C : pm_C g cX1_check RX1) {h0 h : pm_H}  {r : pm_H} (X : pm_X g l G mX1_check (pm_sz r - pm_sz h0) (pm_us r - pm_us h0) Qr) (m0 : pm_Le h0 h) (hf : fX1_check_b136 h  = some r) (q : Qr none r) : pm_G g 136 [] [] h (pm_sz h - pm_sz h0) (pm_us h - pm_us h0) := by
  have le0 := moX1_check_b136 hf
  have kc1 := Nat.sub_le_sub_right le0.1 (pm_sz h0)
  have kc2 := Nat.sub_le_sub_right le0.2 (pm_us h0)
  have K0 := pm_S3.rf h
  unfold fX1_check_b136 at hf
  have hf := Option.some.inj hf
  subst hf
  exact pm_vret C X dX1_check_136 rfl kc1 kc2 q
set_option maxHeartbeats 4000000 in
set_option maxRecDepth 100000 in
theorem bX1_check_125 {g : pm_Gm} {l : Launch} {G : pm_Gl} {Qr : Option Value → pm_H → Prop} (C : pm_C g cX1_check RX1) {h0 h : pm_H} {x0 : Nat} {r : pm_H} (X : pm_X g l G mX1_check (pm_sz r - pm_sz h0) (pm_us r - pm_us h0) Qr) (m0 : pm_Le h0 h) (hf : fX1_check_b125 h x0 = some r) (q : Qr none r) : pm_G g 125 [(0, .ref x0)] [] h (pm_sz h - pm_sz h0) (pm_us h - pm_us h0) := by
  have le0 := moX1_check_b125 hf
  have kc1 := Nat.sub_le_sub_right le0.1 (pm_sz h0)
  have kc2 := Nat.sub_le_sub_right le0.2 (pm_us h0)
  have K0 := pm_S3.rf h
  unfold fX1_check_b125 at hf
  refine pm_aload_n C dX1_check_125 rfl rfl ?_
  obtain ⟨k51, hf⟩ := pm_if hf
  refine pm_getI C dX1_check_126 flX1_53 rfl k51 rfl ?_
  refine pm_if_ne (tgt := 136) C dX1_check_129 (by decide) (fun c52 => ?_) (fun c52 => ?_)
  · have hf := pm_ie hf c52
    exact pa_join K0 (pm_sub [] rfl (bX1_check_136 C X (m0.trans (pm_S3.le K0)) hf q))
  · have hf := pm_it hf c52
    refine pm_aload_n C dX1_check_132 rfl rfl ?_
    obtain ⟨v53, e54, hf⟩ := pm_bd hf
    refine pm_callV (as := []) (st := []) C X dX1_check_133 lnX1_94 myX1_makeBodies viX1_makeBodies ⟨by decide, by decide⟩ rfl rfl k51 (Nat.le_of_ble_eq_true rfl) (pa_le1 K0 m0 (moX1_makeBodies e54) (moX1_check_b136 hf)) (pa_le2 K0 m0 (moX1_makeBodies e54) (moX1_check_b136 hf)) (ctX1_makeBodies e54 ?_)
    show pm_G g 136 [(0, .ref x0)] [] v53 (pm_sz h - pm_sz h0 + (pm_sz v53 - pm_sz h)) (pm_us h - pm_us h0 + (pm_us v53 - pm_us h))
    refine pa_fin K0 m0 (moX1_makeBodies e54) ?_
    exact pm_sub [] rfl (bX1_check_136 C X ((m0.trans (pm_S3.le K0)).trans (moX1_makeBodies e54)) hf q)
set_option maxHeartbeats 4000000 in
set_option maxRecDepth 100000 in
theorem bX1_check_114 {g : pm_Gm} {l : Launch} {G : pm_Gl} {Qr : Option Value → pm_H → Prop} (C : pm_C g cX1_check RX1) {h0 h : pm_H} {x0 : Nat} {r : pm_H} (X : pm_X g l G mX1_check (pm_sz r - pm_sz h0) (pm_us r - pm_us h0) Qr) (m0 : pm_Le h0 h) (hf : fX1_check_b114 h x0 = some r) (q : Qr none r) : pm_G g 114 [(0, .ref x0)] [] h (pm_sz h - pm_sz h0) (pm_us h - pm_us h0) := by
  have le0 := moX1_check_b114 hf
  have kc1 := Nat.sub_le_sub_right le0.1 (pm_sz h0)
  have kc2 := Nat.sub_le_sub_right le0.2 (pm_us h0)
  have K0 := pm_S3.rf h
  unfold fX1_check_b114 at hf
  refine pm_aload_n C dX1_check_114 rfl rfl ?_
  obtain ⟨k46, hf⟩ := pm_if hf
  refine pm_getI C dX1_check_115 flX1_53 rfl k46 rfl ?_
  refine pm_if_ne (tgt := 125) C dX1_check_118 (by decide) (fun c47 => ?_) (fun c47 => ?_)
  · have hf := pm_ie hf c47
    exact pa_join K0 (pm_sub [0] rfl (bX1_check_125 C X (m0.trans (pm_S3.le K0)) hf q))
  · have hf := pm_it hf c47
    refine pm_aload_n C dX1_check_121 rfl rfl ?_
    obtain ⟨v48, e49, hf⟩ := pm_bd hf
    refine pm_callV (as := []) (st := []) C X dX1_check_122 lnX1_91 myX1_dataAreRight viX1_dataAreRight ⟨by decide, by decide⟩ rfl rfl k46 (Nat.le_of_ble_eq_true rfl) kc1 kc2 (ctX1_dataAreRight e49 ?_)
    have K50 := pm_S3.trans (kpX1_dataAreRight e49) K0
    show pm_G g 125 [(0, .ref x0)] [] v48 (pm_sz h - pm_sz h0) (pm_us h - pm_us h0)
    exact pa_join K50 (pm_sub [0] rfl (bX1_check_125 C X (m0.trans (pm_S3.le K50)) hf q))
set_option maxHeartbeats 4000000 in
set_option maxRecDepth 100000 in
theorem bX1_check_103 {g : pm_Gm} {l : Launch} {G : pm_Gl} {Qr : Option Value → pm_H → Prop} (C : pm_C g cX1_check RX1) {h0 h : pm_H} {x0 : Nat} {r : pm_H} (X : pm_X g l G mX1_check (pm_sz r - pm_sz h0) (pm_us r - pm_us h0) Qr) (m0 : pm_Le h0 h) (hf : fX1_check_b103 h x0 = some r) (q : Qr none r) : pm_G g 103 [(0, .ref x0)] [] h (pm_sz h - pm_sz h0) (pm_us h - pm_us h0) := by
  have le0 := moX1_check_b103 hf
  have kc1 := Nat.sub_le_sub_right le0.1 (pm_sz h0)
  have kc2 := Nat.sub_le_sub_right le0.2 (pm_us h0)
  have K0 := pm_S3.rf h
  unfold fX1_check_b103 at hf
  refine pm_aload_n C dX1_check_103 rfl rfl ?_
  obtain ⟨k41, hf⟩ := pm_if hf
  refine pm_getI C dX1_check_104 flX1_53 rfl k41 rfl ?_
  refine pm_if_ne (tgt := 114) C dX1_check_107 (by decide) (fun c42 => ?_) (fun c42 => ?_)
  · have hf := pm_ie hf c42
    exact pa_join K0 (pm_sub [0] rfl (bX1_check_114 C X (m0.trans (pm_S3.le K0)) hf q))
  · have hf := pm_it hf c42
    refine pm_aload_n C dX1_check_110 rfl rfl ?_
    obtain ⟨v43, e44, hf⟩ := pm_bd hf
    refine pm_callV (as := []) (st := []) C X dX1_check_111 lnX1_88 myX1_elementsAreRight viX1_elementsAreRight ⟨by decide, by decide⟩ rfl rfl k41 (Nat.le_of_ble_eq_true rfl) kc1 kc2 (ctX1_elementsAreRight e44 ?_)
    have K45 := pm_S3.trans (kpX1_elementsAreRight e44) K0
    show pm_G g 114 [(0, .ref x0)] [] v43 (pm_sz h - pm_sz h0) (pm_us h - pm_us h0)
    exact pa_join K45 (pm_sub [0] rfl (bX1_check_114 C X (m0.trans (pm_S3.le K45)) hf q))
set_option maxHeartbeats 4000000 in
set_option maxRecDepth 100000 in
theorem bX1_check_92 {g : pm_Gm} {l : Launch} {G : pm_Gl} {Qr : Option Value → pm_H → Prop} (C : pm_C g cX1_check RX1) {h0 h : pm_H} {x0 : Nat} {r : pm_H} (X : pm_X g l G mX1_check (pm_sz r - pm_sz h0) (pm_us r - pm_us h0) Qr) (m0 : pm_Le h0 h) (hf : fX1_check_b92 h x0 = some r) (q : Qr none r) : pm_G g 92 [(0, .ref x0)] [] h (pm_sz h - pm_sz h0) (pm_us h - pm_us h0) := by
  have le0 := moX1_check_b92 hf
  have kc1 := Nat.sub_le_sub_right le0.1 (pm_sz h0)
  have kc2 := Nat.sub_le_sub_right le0.2 (pm_us h0)
  have K0 := pm_S3.rf h
  unfold fX1_check_b92 at hf
  refine pm_aload_n C dX1_check_92 rfl rfl ?_
  obtain ⟨k36, hf⟩ := pm_if hf
  refine pm_getI C dX1_check_93 flX1_53 rfl k36 rfl ?_
  refine pm_if_ne (tgt := 103) C dX1_check_96 (by decide) (fun c37 => ?_) (fun c37 => ?_)
  · have hf := pm_ie hf c37
    exact pa_join K0 (pm_sub [0] rfl (bX1_check_103 C X (m0.trans (pm_S3.le K0)) hf q))
  · have hf := pm_it hf c37
    refine pm_aload_n C dX1_check_99 rfl rfl ?_
    obtain ⟨v38, e39, hf⟩ := pm_bd hf
    refine pm_callV (as := []) (st := []) C X dX1_check_100 lnX1_85 myX1_globalsAreRight viX1_globalsAreRight ⟨by decide, by decide⟩ rfl rfl k36 (Nat.le_of_ble_eq_true rfl) kc1 kc2 (ctX1_globalsAreRight e39 ?_)
    have K40 := pm_S3.trans (kpX1_globalsAreRight e39) K0
    show pm_G g 103 [(0, .ref x0)] [] v38 (pm_sz h - pm_sz h0) (pm_us h - pm_us h0)
    exact pa_join K40 (pm_sub [0] rfl (bX1_check_103 C X (m0.trans (pm_S3.le K40)) hf q))
set_option maxHeartbeats 4000000 in
set_option maxRecDepth 100000 in
theorem bX1_check_81 {g : pm_Gm} {l : Launch} {G : pm_Gl} {Qr : Option Value → pm_H → Prop} (C : pm_C g cX1_check RX1) {h0 h : pm_H} {x0 : Nat} {r : pm_H} (X : pm_X g l G mX1_check (pm_sz r - pm_sz h0) (pm_us r - pm_us h0) Qr) (m0 : pm_Le h0 h) (hf : fX1_check_b81 h x0 = some r) (q : Qr none r) : pm_G g 81 [(0, .ref x0)] [] h (pm_sz h - pm_sz h0) (pm_us h - pm_us h0) := by
  have le0 := moX1_check_b81 hf
  have kc1 := Nat.sub_le_sub_right le0.1 (pm_sz h0)
  have kc2 := Nat.sub_le_sub_right le0.2 (pm_us h0)
  have K0 := pm_S3.rf h
  unfold fX1_check_b81 at hf
  refine pm_aload_n C dX1_check_81 rfl rfl ?_
  obtain ⟨k32, hf⟩ := pm_if hf
  refine pm_getI C dX1_check_82 flX1_53 rfl k32 rfl ?_
  refine pm_if_ne (tgt := 92) C dX1_check_85 (by decide) (fun c33 => ?_) (fun c33 => ?_)
  · have hf := pm_ie hf c33
    exact pa_join K0 (pm_sub [0] rfl (bX1_check_92 C X (m0.trans (pm_S3.le K0)) hf q))
  · have hf := pm_it hf c33
    refine pm_aload_n C dX1_check_88 rfl rfl ?_
    obtain ⟨v34, e35, hf⟩ := pm_bd hf
    refine pm_callV (as := []) (st := []) C X dX1_check_89 lnX1_82 myX1_startIsRight viX1_startIsRight ⟨by decide, by decide⟩ rfl rfl k32 (Nat.le_of_ble_eq_true rfl) (pa_le1 K0 m0 (moX1_startIsRight e35) (moX1_check_b92 hf)) (pa_le2 K0 m0 (moX1_startIsRight e35) (moX1_check_b92 hf)) (ctX1_startIsRight e35 ?_)
    show pm_G g 92 [(0, .ref x0)] [] v34 (pm_sz h - pm_sz h0 + (pm_sz v34 - pm_sz h)) (pm_us h - pm_us h0 + (pm_us v34 - pm_us h))
    refine pa_fin K0 m0 (moX1_startIsRight e35) ?_
    exact pm_sub [0] rfl (bX1_check_92 C X ((m0.trans (pm_S3.le K0)).trans (moX1_startIsRight e35)) hf q)
set_option maxHeartbeats 4000000 in
set_option maxRecDepth 100000 in
theorem bX1_check_70 {g : pm_Gm} {l : Launch} {G : pm_Gl} {Qr : Option Value → pm_H → Prop} (C : pm_C g cX1_check RX1) {h0 h : pm_H} {x0 : Nat} {r : pm_H} (X : pm_X g l G mX1_check (pm_sz r - pm_sz h0) (pm_us r - pm_us h0) Qr) (m0 : pm_Le h0 h) (hf : fX1_check_b70 h x0 = some r) (q : Qr none r) : pm_G g 70 [(0, .ref x0)] [] h (pm_sz h - pm_sz h0) (pm_us h - pm_us h0) := by
  have le0 := moX1_check_b70 hf
  have kc1 := Nat.sub_le_sub_right le0.1 (pm_sz h0)
  have kc2 := Nat.sub_le_sub_right le0.2 (pm_us h0)
  have K0 := pm_S3.rf h
  unfold fX1_check_b70 at hf
  refine pm_aload_n C dX1_check_70 rfl rfl ?_
  obtain ⟨k27, hf⟩ := pm_if hf
  refine pm_getI C dX1_check_71 flX1_53 rfl k27 rfl ?_
  refine pm_if_ne (tgt := 81) C dX1_check_74 (by decide) (fun c28 => ?_) (fun c28 => ?_)
  · have hf := pm_ie hf c28
    exact pa_join K0 (pm_sub [0] rfl (bX1_check_81 C X (m0.trans (pm_S3.le K0)) hf q))
  · have hf := pm_it hf c28
    refine pm_aload_n C dX1_check_77 rfl rfl ?_
    obtain ⟨v29, e30, hf⟩ := pm_bd hf
    refine pm_callV (as := []) (st := []) C X dX1_check_78 lnX1_79 myX1_exportsAreRight viX1_exportsAreRight ⟨by decide, by decide⟩ rfl rfl k27 (Nat.le_of_ble_eq_true rfl) kc1 kc2 (ctX1_exportsAreRight e30 ?_)
    have K31 := pm_S3.trans (kpX1_exportsAreRight e30) K0
    show pm_G g 81 [(0, .ref x0)] [] v29 (pm_sz h - pm_sz h0) (pm_us h - pm_us h0)
    exact pa_join K31 (pm_sub [0] rfl (bX1_check_81 C X (m0.trans (pm_S3.le K31)) hf q))
set_option maxHeartbeats 4000000 in
set_option maxRecDepth 100000 in
theorem bX1_check_59 {g : pm_Gm} {l : Launch} {G : pm_Gl} {Qr : Option Value → pm_H → Prop} (C : pm_C g cX1_check RX1) {h0 h : pm_H} {x0 : Nat} {r : pm_H} (X : pm_X g l G mX1_check (pm_sz r - pm_sz h0) (pm_us r - pm_us h0) Qr) (m0 : pm_Le h0 h) (hf : fX1_check_b59 h x0 = some r) (q : Qr none r) : pm_G g 59 [(0, .ref x0)] [] h (pm_sz h - pm_sz h0) (pm_us h - pm_us h0) := by
  have le0 := moX1_check_b59 hf
  have kc1 := Nat.sub_le_sub_right le0.1 (pm_sz h0)
  have kc2 := Nat.sub_le_sub_right le0.2 (pm_us h0)
  have K0 := pm_S3.rf h
  unfold fX1_check_b59 at hf
  refine pm_aload_n C dX1_check_59 rfl rfl ?_
  obtain ⟨k22, hf⟩ := pm_if hf
  refine pm_getI C dX1_check_60 flX1_53 rfl k22 rfl ?_
  refine pm_if_ne (tgt := 70) C dX1_check_63 (by decide) (fun c23 => ?_) (fun c23 => ?_)
  · have hf := pm_ie hf c23
    exact pa_join K0 (pm_sub [0] rfl (bX1_check_70 C X (m0.trans (pm_S3.le K0)) hf q))
  · have hf := pm_it hf c23
    refine pm_aload_n C dX1_check_66 rfl rfl ?_
    obtain ⟨v24, e25, hf⟩ := pm_bd hf
    refine pm_callV (as := []) (st := []) C X dX1_check_67 lnX1_76 myX1_memoryIsOne viX1_memoryIsOne ⟨by decide, by decide⟩ rfl rfl k22 (Nat.le_of_ble_eq_true rfl) kc1 kc2 (ctX1_memoryIsOne e25 ?_)
    have K26 := pm_S3.trans (kpX1_memoryIsOne e25) K0
    show pm_G g 70 [(0, .ref x0)] [] v24 (pm_sz h - pm_sz h0) (pm_us h - pm_us h0)
    exact pa_join K26 (pm_sub [0] rfl (bX1_check_70 C X (m0.trans (pm_S3.le K26)) hf q))
set_option maxHeartbeats 4000000 in
set_option maxRecDepth 100000 in
theorem bX1_check_48 {g : pm_Gm} {l : Launch} {G : pm_Gl} {Qr : Option Value → pm_H → Prop} (C : pm_C g cX1_check RX1) {h0 h : pm_H} {x0 : Nat} {r : pm_H} (X : pm_X g l G mX1_check (pm_sz r - pm_sz h0) (pm_us r - pm_us h0) Qr) (m0 : pm_Le h0 h) (hf : fX1_check_b48 h x0 = some r) (q : Qr none r) : pm_G g 48 [(0, .ref x0)] [] h (pm_sz h - pm_sz h0) (pm_us h - pm_us h0) := by
  have le0 := moX1_check_b48 hf
  have kc1 := Nat.sub_le_sub_right le0.1 (pm_sz h0)
  have kc2 := Nat.sub_le_sub_right le0.2 (pm_us h0)
  have K0 := pm_S3.rf h
  unfold fX1_check_b48 at hf
  refine pm_aload_n C dX1_check_48 rfl rfl ?_
  obtain ⟨k17, hf⟩ := pm_if hf
  refine pm_getI C dX1_check_49 flX1_53 rfl k17 rfl ?_
  refine pm_if_ne (tgt := 59) C dX1_check_52 (by decide) (fun c18 => ?_) (fun c18 => ?_)
  · have hf := pm_ie hf c18
    exact pa_join K0 (pm_sub [0] rfl (bX1_check_59 C X (m0.trans (pm_S3.le K0)) hf q))
  · have hf := pm_it hf c18
    refine pm_aload_n C dX1_check_55 rfl rfl ?_
    obtain ⟨v19, e20, hf⟩ := pm_bd hf
    refine pm_callV (as := []) (st := []) C X dX1_check_56 lnX1_73 myX1_limitsAreRight viX1_limitsAreRight ⟨by decide, by decide⟩ rfl rfl k17 (Nat.le_of_ble_eq_true rfl) kc1 kc2 (ctX1_limitsAreRight e20 ?_)
    have K21 := pm_S3.trans (kpX1_limitsAreRight e20) K0
    show pm_G g 59 [(0, .ref x0)] [] v19 (pm_sz h - pm_sz h0) (pm_us h - pm_us h0)
    exact pa_join K21 (pm_sub [0] rfl (bX1_check_59 C X (m0.trans (pm_S3.le K21)) hf q))
set_option maxHeartbeats 4000000 in
set_option maxRecDepth 100000 in
theorem bX1_check_37 {g : pm_Gm} {l : Launch} {G : pm_Gl} {Qr : Option Value → pm_H → Prop} (C : pm_C g cX1_check RX1) {h0 h : pm_H} {x0 : Nat} {r : pm_H} (X : pm_X g l G mX1_check (pm_sz r - pm_sz h0) (pm_us r - pm_us h0) Qr) (m0 : pm_Le h0 h) (hf : fX1_check_b37 h x0 = some r) (q : Qr none r) : pm_G g 37 [(0, .ref x0)] [] h (pm_sz h - pm_sz h0) (pm_us h - pm_us h0) := by
  have le0 := moX1_check_b37 hf
  have kc1 := Nat.sub_le_sub_right le0.1 (pm_sz h0)
  have kc2 := Nat.sub_le_sub_right le0.2 (pm_us h0)
  have K0 := pm_S3.rf h
  unfold fX1_check_b37 at hf
  refine pm_aload_n C dX1_check_37 rfl rfl ?_
  obtain ⟨k12, hf⟩ := pm_if hf
  refine pm_getI C dX1_check_38 flX1_53 rfl k12 rfl ?_
  refine pm_if_ne (tgt := 48) C dX1_check_41 (by decide) (fun c13 => ?_) (fun c13 => ?_)
  · have hf := pm_ie hf c13
    exact pa_join K0 (pm_sub [0] rfl (bX1_check_48 C X (m0.trans (pm_S3.le K0)) hf q))
  · have hf := pm_it hf c13
    refine pm_aload_n C dX1_check_44 rfl rfl ?_
    obtain ⟨v14, e15, hf⟩ := pm_bd hf
    refine pm_callV (as := []) (st := []) C X dX1_check_45 lnX1_70 myX1_typesAreThere viX1_typesAreThere ⟨by decide, by decide⟩ rfl rfl k12 (Nat.le_of_ble_eq_true rfl) kc1 kc2 (ctX1_typesAreThere e15 ?_)
    have K16 := pm_S3.trans (kpX1_typesAreThere e15) K0
    show pm_G g 48 [(0, .ref x0)] [] v14 (pm_sz h - pm_sz h0) (pm_us h - pm_us h0)
    exact pa_join K16 (pm_sub [0] rfl (bX1_check_48 C X (m0.trans (pm_S3.le K16)) hf q))
set_option maxHeartbeats 4000000 in
set_option maxRecDepth 100000 in
theorem bX1_check_23 {g : pm_Gm} {l : Launch} {G : pm_Gl} {Qr : Option Value → pm_H → Prop} (C : pm_C g cX1_check RX1) {h0 h : pm_H} {x0 : Nat} {x2 : Int32} {s0 : Nat} {s1 : Nat} {r : pm_H} (X : pm_X g l G mX1_check (pm_sz r - pm_sz h0) (pm_us r - pm_us h0) Qr) (m0 : pm_Le h0 h) (hf : fX1_check_b23 h x0 x2 s0 s1 = some r) (q : Qr none r) : pm_G g 23 [(0, .ref x0), (2, .int x2)] [.ref s0, .ref s1] h (pm_sz h - pm_sz h0) (pm_us h - pm_us h0) := by
  have le0 := moX1_check_b23 hf
  have kc1 := Nat.sub_le_sub_right le0.1 (pm_sz h0)
  have kc2 := Nat.sub_le_sub_right le0.2 (pm_us h0)
  have K0 := pm_S3.rf h
  unfold fX1_check_b23 at hf
  obtain ⟨k6, hf⟩ := pm_if hf
  refine pm_putR C dX1_check_23 flX1_9 rfl rfl k6 ?_
  refine pm_iload_n C dX1_check_26 rfl rfl ?_
  refine pm_if_lt (tgt := 37) C dX1_check_27 (by decide) (fun c7 => ?_) (fun c7 => ?_)
  · have hf := pm_it hf c7
    exact pa_join (pm_S3R K0) (pm_sub [0] rfl (bX1_check_37 C X (m0.trans (pm_S3.le (pm_S3R K0))) hf q))
  · have hf := pm_ie hf c7
    refine pm_aload_n C dX1_check_30 rfl rfl ?_
    refine pm_bipush (v := 40) C dX1_check_31 (by decide) ?_
    refine pm_iload_n C dX1_check_33 rfl rfl ?_
    obtain ⟨k8, hf⟩ := pm_if hf
    obtain ⟨v9, e10, hf⟩ := pm_bd hf
    refine pm_callV (as := [.int 40, .int x2]) (st := []) C X dX1_check_34 lnX1_66 myX1_failAt viX1_failAt ⟨by decide, by decide⟩ rfl rfl k8 (Nat.le_of_ble_eq_true rfl) kc1 kc2 (ctX1_failAt e10 ?_)
    have K11 := pm_S3.trans (kpX1_failAt e10) (pm_S3R K0)
    show pm_G g 37 [(0, .ref x0), (2, .int x2)] [] v9 (pm_sz h - pm_sz h0) (pm_us h - pm_us h0)
    exact pa_join K11 (pm_sub [0] rfl (bX1_check_37 C X (m0.trans (pm_S3.le K11)) hf q))
set_option maxHeartbeats 4000000 in
set_option maxRecDepth 100000 in
theorem bX1_check_0 {g : pm_Gm} {l : Launch} {G : pm_Gl} {Qr : Option Value → pm_H → Prop} (C : pm_C g cX1_check RX1) {h0 h : pm_H} {x0 : Nat} {x1 : Nat} {x2 : Int32} {r : pm_H} (X : pm_X g l G mX1_check (pm_sz r - pm_sz h0) (pm_us r - pm_us h0) Qr) (m0 : pm_Le h0 h) (hf : fX1_check_b0 h x0 x1 x2 = some r) (q : Qr none r) : pm_G g 0 [(0, .ref x0), (1, .ref x1), (2, .int x2)] [] h (pm_sz h - pm_sz h0) (pm_us h - pm_us h0) := by
  have le0 := moX1_check_b0 hf
  have kc1 := Nat.sub_le_sub_right le0.1 (pm_sz h0)
  have kc2 := Nat.sub_le_sub_right le0.2 (pm_us h0)
  have K0 := pm_S3.rf h
  unfold fX1_check_b0 at hf
  refine pm_aload_n C dX1_check_0 rfl rfl ?_
  refine pm_aload_n C dX1_check_1 rfl rfl ?_
  obtain ⟨k1, hf⟩ := pm_if hf
  refine pm_putR C dX1_check_2 flX1_40 rfl rfl k1 ?_
  refine pm_aload_n C dX1_check_5 rfl rfl ?_
  refine pm_iconst (v := 0) C dX1_check_6 (by decide) ?_
  refine pm_putI C dX1_check_7 flX1_53 rfl rfl k1 rfl rfl ?_
  refine pm_aload_n C dX1_check_10 rfl rfl ?_
  refine pm_iconst (v := (-1)) C dX1_check_11 (by decide) ?_
  refine pm_putI C dX1_check_12 flX1_57 rfl rfl k1 rfl rfl ?_
  refine pm_aload_n C dX1_check_15 rfl rfl ?_
  refine pm_aload_n C dX1_check_16 rfl rfl ?_
  refine pm_iconst (v := 0) C dX1_check_17 (by decide) ?_
  obtain ⟨k2, hf⟩ := pm_if hf
  obtain ⟨v3, e4, hf⟩ := pm_bd hf
  refine pm_callV (as := [.int 0]) (st := [.ref x0]) C X dX1_check_18 lnX1_60 myX7_count viX7_count ⟨by decide, by decide⟩ rfl rfl k2 (Nat.le_of_ble_eq_true rfl) kc1 kc2 (ctX7_count e4 ?_)
  show pm_G g 21 [(0, .ref x0), (1, .ref x1), (2, .int x2)] [.int v3, .ref x0] (pm_setI (pm_setI (pm_setR h x0 2 (some x1)) x0 0 0) x0 1 (-1)) (pm_sz h - pm_sz h0) (pm_us h - pm_us h0)
  obtain ⟨u5, hf⟩ := pm_if hf
  refine pa_newa (hb := h) (h0 := h0) (t := 0) (N := v3.toNatClampNeg) C X (pm_S3I (pm_S3I (pm_S3R K0))) m0 dX1_check_21 (by decide) rfl al0 u5.1 rfl u5.2 (moX1_check_b23 hf) ?_
  exact pm_sub [0, 2] rfl (bX1_check_23 C X ((m0.trans (pm_S3.le (pm_S3I (pm_S3I (pm_S3R K0))))).trans (pm_Le_new _ _ _)) hf q)
set_option maxHeartbeats 4000000 in
set_option maxRecDepth 100000 in
theorem ctX1_check {l : Launch} {G : pm_Gl} {h : pm_H} {a0 : Nat} {p1 : Nat} {p2 : Int32} {r : pm_H} {Qr : Option Value → pm_H → Prop} (hf : fX1_check h a0 p1 p2 = some r) (q : Qr none r) : pm_Ct l G mX1_check [.ref a0, .ref p1, .int p2] h (pm_sz r - pm_sz h) (pm_us r - pm_us h) Qr := by
  refine pm_body pnX1 (Nat.le_of_ble_eq_true rfl) (fun g C X => ?_)
  have C : pm_C g cX1_check RX1 := C
  show pm_G g 0 [(0, .ref a0), (1, .ref p1), (2, .int p2)] [] h 0 0
  unfold fX1_check at hf
  exact pa_start (pm_sub [0, 1, 2] rfl (bX1_check_0 C X (pm_Le.rf h) hf q))
theorem dX1_emitBranch_0 : decode cX1_emitBranch 0 = .ok (.aload_n 0, 1) := by decide +kernel
theorem dX1_emitBranch_1 : decode cX1_emitBranch 1 = .ok (.iload_n 2, 1) := by decide +kernel
theorem dX1_emitBranch_2 : decode cX1_emitBranch 2 = .ok (.invokevirtual 304, 3) := by decide +kernel
theorem dX1_emitBranch_5 : decode cX1_emitBranch 5 = .ok (.istore_n 3, 1) := by decide +kernel
theorem dX1_emitBranch_6 : decode cX1_emitBranch 6 = .ok (.aload_n 0, 1) := by decide +kernel
theorem dX1_emitBranch_7 : decode cX1_emitBranch 7 = .ok (.iload_n 2, 1) := by decide +kernel
theorem dX1_emitBranch_8 : decode cX1_emitBranch 8 = .ok (.iload_n 3, 1) := by decide +kernel
theorem dX1_emitBranch_9 : decode cX1_emitBranch 9 = .ok (.ifCond .eq 8, 3) := by decide +kernel
theorem dX1_emitBranch_12 : decode cX1_emitBranch 12 = .ok (.bipush 6, 2) := by decide +kernel
theorem dX1_emitBranch_14 : decode cX1_emitBranch 14 = .ok (.goto 4, 3) := by decide +kernel
theorem dX1_emitBranch_17 : decode cX1_emitBranch 17 = .ok (.iconst 5, 1) := by decide +kernel
theorem dX1_emitBranch_18 : decode cX1_emitBranch 18 = .ok (.invokevirtual 284, 3) := by decide +kernel
theorem dX1_emitBranch_21 : decode cX1_emitBranch 21 = .ok (.istore 4, 2) := by decide +kernel
theorem dX1_emitBranch_23 : decode cX1_emitBranch 23 = .ok (.aload_n 0, 1) := by decide +kernel
theorem dX1_emitBranch_24 : decode cX1_emitBranch 24 = .ok (.iload_n 1, 1) := by decide +kernel
theorem dX1_emitBranch_25 : decode cX1_emitBranch 25 = .ok (.iload 4, 2) := by decide +kernel
theorem dX1_emitBranch_27 : decode cX1_emitBranch 27 = .ok (.aload_n 0, 1) := by decide +kernel
theorem dX1_emitBranch_28 : decode cX1_emitBranch 28 = .ok (.iload_n 2, 1) := by decide +kernel
theorem dX1_emitBranch_29 : decode cX1_emitBranch 29 = .ok (.invokevirtual 311, 3) := by decide +kernel
theorem dX1_emitBranch_32 : decode cX1_emitBranch 32 = .ok (.aload_n 0, 1) := by decide +kernel
theorem dX1_emitBranch_33 : decode cX1_emitBranch 33 = .ok (.iload_n 2, 1) := by decide +kernel
theorem dX1_emitBranch_34 : decode cX1_emitBranch 34 = .ok (.iconst 2, 1) := by decide +kernel
theorem dX1_emitBranch_35 : decode cX1_emitBranch 35 = .ok (.invokevirtual 284, 3) := by decide +kernel
theorem dX1_emitBranch_38 : decode cX1_emitBranch 38 = .ok (.invokevirtual 322, 3) := by decide +kernel
theorem dX1_emitBranch_41 : decode cX1_emitBranch 41 = .ok (.istore 5, 2) := by decide +kernel
theorem dX1_emitBranch_43 : decode cX1_emitBranch 43 = .ok (.iload_n 3, 1) := by decide +kernel
theorem dX1_emitBranch_44 : decode cX1_emitBranch 44 = .ok (.ifCond .ne 16, 3) := by decide +kernel
theorem dX1_emitBranch_47 : decode cX1_emitBranch 47 = .ok (.iload 5, 2) := by decide +kernel
theorem dX1_emitBranch_49 : decode cX1_emitBranch 49 = .ok (.ifCond .lt 11, 3) := by decide +kernel
theorem dX1_emitBranch_52 : decode cX1_emitBranch 52 = .ok (.aload_n 0, 1) := by decide +kernel
theorem dX1_emitBranch_53 : decode cX1_emitBranch 53 = .ok (.iload_n 2, 1) := by decide +kernel
theorem dX1_emitBranch_54 : decode cX1_emitBranch 54 = .ok (.iconst 5, 1) := by decide +kernel
theorem dX1_emitBranch_55 : decode cX1_emitBranch 55 = .ok (.iload 5, 2) := by decide +kernel
theorem dX1_emitBranch_57 : decode cX1_emitBranch 57 = .ok (.invokevirtual 280, 3) := by decide +kernel
theorem dX1_emitBranch_60 : decode cX1_emitBranch 60 = .ok (.return_, 1) := by decide +kernel
def fX1_emitBranch_b32 (h : pm_H) (x0 : Nat) (x2 : Int32) (x3 : Int32) (s0 : Int32) (s1 : Int32) (s2 : Int32) (s3 : Nat) : Option pm_H := if pm_kd h x0 = 1 then (fX1_label h x0 x2 2).bind fun v12 => if pm_kd h s3 = 1 then (fX1_emit h s3 s2 s1 s0 v12).bind fun v15 => if x3 = 0 then (if v15.1 < 0 then (some v15.2) else (if pm_kd v15.2 x0 = 1 then (fX1_setLabel v15.2 x0 x2 5 v15.1).bind fun v21 => some v21 else none)) else (some v15.2) else none else none
def fX1_emitBranch_b18 (h : pm_H) (x0 : Nat) (x1 : Int32) (x2 : Int32) (x3 : Int32) (s0 : Int32) (s1 : Int32) (s2 : Nat) : Option pm_H := if pm_kd h s2 = 1 then (fX1_label h s2 s1 s0).bind fun v6 => if pm_kd h x0 = 1 then (fX1_wantedCount h x0 x2).bind fun v9 => fX1_emitBranch_b32 v9.2 x0 x2 x3 v9.1 v6 x1 x0 else none else none
def fX1_emitBranch_b0 (h : pm_H) (x0 : Nat) (x1 : Int32) (x2 : Int32) : Option pm_H := if pm_kd h x0 = 1 then (fX1_isLoop h x0 x2).bind fun v2 => if v2 = 0 then (fX1_emitBranch_b18 h x0 x1 x2 v2 5 x2 x0) else (fX1_emitBranch_b18 h x0 x1 x2 v2 6 x2 x0) else none
def fX1_emitBranch (h : pm_H) (a0 : Nat) (p1 : Int32) (p2 : Int32) : Option pm_H := fX1_emitBranch_b0 h a0 p1 p2
set_option maxHeartbeats 4000000 in
set_option maxRecDepth 100000 in
theorem moX1_emitBranch_b32 {h : pm_H} {x0 : Nat} {x2 : Int32} {x3 : Int32} {s0 : Int32} {s1 : Int32} {s2 : Int32} {s3 : Nat} {r : pm_H} (hf : fX1_emitBranch_b32 h x0 x2 x3 s0 s1 s2 s3 = some r) : pm_Le h r := by
  unfold fX1_emitBranch_b32 at hf
  have K0 := pm_S3.rf h
  obtain ⟨k11, hf⟩ := pm_if hf
  obtain ⟨v12, e13, hf⟩ := pm_bd hf
  obtain ⟨k14, hf⟩ := pm_if hf
  obtain ⟨v15, e16, hf⟩ := pm_bd hf
  have K17 := pm_S3.trans (kpX1_emit e16) K0
  by_cases c18 : x3 = 0
  · have hf := pm_it hf c18
    by_cases c19 : v15.1 < 0
    · have hf := pm_it hf c19
      have hf := Option.some.inj hf
      subst hf
      exact pm_S3.le K17
    · have hf := pm_ie hf c19
      obtain ⟨k20, hf⟩ := pm_if hf
      obtain ⟨v21, e22, hf⟩ := pm_bd hf
      have K23 := pm_S3.trans (kpX1_setLabel e22) K17
      have hf := Option.some.inj hf
      subst hf
      exact pm_S3.le K23
  · have hf := pm_ie hf c18
    have hf := Option.some.inj hf
    subst hf
    exact pm_S3.le K17
set_option maxHeartbeats 4000000 in
set_option maxRecDepth 100000 in
theorem moX1_emitBranch_b18 {h : pm_H} {x0 : Nat} {x1 : Int32} {x2 : Int32} {x3 : Int32} {s0 : Int32} {s1 : Int32} {s2 : Nat} {r : pm_H} (hf : fX1_emitBranch_b18 h x0 x1 x2 x3 s0 s1 s2 = some r) : pm_Le h r := by
  unfold fX1_emitBranch_b18 at hf
  have K0 := pm_S3.rf h
  obtain ⟨k5, hf⟩ := pm_if hf
  obtain ⟨v6, e7, hf⟩ := pm_bd hf
  obtain ⟨k8, hf⟩ := pm_if hf
  obtain ⟨v9, e10, hf⟩ := pm_bd hf
  exact ((pm_S3.le K0).trans (moX1_wantedCount e10)).trans (moX1_emitBranch_b32 hf)
set_option maxHeartbeats 4000000 in
set_option maxRecDepth 100000 in
theorem moX1_emitBranch_b0 {h : pm_H} {x0 : Nat} {x1 : Int32} {x2 : Int32} {r : pm_H} (hf : fX1_emitBranch_b0 h x0 x1 x2 = some r) : pm_Le h r := by
  unfold fX1_emitBranch_b0 at hf
  have K0 := pm_S3.rf h
  obtain ⟨k1, hf⟩ := pm_if hf
  obtain ⟨v2, e3, hf⟩ := pm_bd hf
  by_cases c4 : v2 = 0
  · have hf := pm_it hf c4
    exact (pm_S3.le K0).trans (moX1_emitBranch_b18 hf)
  · have hf := pm_ie hf c4
    exact (pm_S3.le K0).trans (moX1_emitBranch_b18 hf)
set_option maxHeartbeats 4000000 in
set_option maxRecDepth 100000 in
theorem moX1_emitBranch {h : pm_H} {a0 : Nat} {p1 : Int32} {p2 : Int32} {r : pm_H} (hf : fX1_emitBranch h a0 p1 p2 = some r) : pm_Le h r := by
  unfold fX1_emitBranch at hf
  have K0 := pm_S3.rf h
  exact (pm_S3.le K0).trans (moX1_emitBranch_b0 hf)
set_option maxHeartbeats 4000000 in
set_option maxRecDepth 100000 in
theorem bX1_emitBranch_32 {g : pm_Gm} {l : Launch} {G : pm_Gl} {Qr : Option Value → pm_H → Prop} (C : pm_C g cX1_emitBranch RX1) {h0 h : pm_H} {x0 : Nat} {x2 : Int32} {x3 : Int32} {s0 : Int32} {s1 : Int32} {s2 : Int32} {s3 : Nat} {r : pm_H} (X : pm_X g l G mX1_emitBranch (pm_sz r - pm_sz h0) (pm_us r - pm_us h0) Qr) (m0 : pm_Le h0 h) (hf : fX1_emitBranch_b32 h x0 x2 x3 s0 s1 s2 s3 = some r) (q : Qr none r) : pm_G g 32 [(0, .ref x0), (2, .int x2), (3, .int x3)] [.int s0, .int s1, .int s2, .ref s3] h (pm_sz h - pm_sz h0) (pm_us h - pm_us h0) := by
  have le0 := moX1_emitBranch_b32 hf
  have kc1 := Nat.sub_le_sub_right le0.1 (pm_sz h0)
  have kc2 := Nat.sub_le_sub_right le0.2 (pm_us h0)
  have K0 := pm_S3.rf h
  unfold fX1_emitBranch_b32 at hf
  refine pm_aload_n C dX1_emitBranch_32 rfl rfl ?_
  refine pm_iload_n C dX1_emitBranch_33 rfl rfl ?_
  refine pm_iconst (v := 2) C dX1_emitBranch_34 (by decide) ?_
  obtain ⟨k11, hf⟩ := pm_if hf
  obtain ⟨v12, e13, hf⟩ := pm_bd hf
  refine pm_callV (as := [.int x2, .int 2]) (st := [.int s0, .int s1, .int s2, .ref s3]) C X dX1_emitBranch_35 lnX1_284 myX1_label viX1_label ⟨by decide, by decide⟩ rfl rfl k11 (Nat.le_of_ble_eq_true rfl) kc1 kc2 (ctX1_label e13 ?_)
  show pm_G g 38 [(0, .ref x0), (2, .int x2), (3, .int x3)] [.int v12, .int s0, .int s1, .int s2, .ref s3] h (pm_sz h - pm_sz h0) (pm_us h - pm_us h0)
  obtain ⟨k14, hf⟩ := pm_if hf
  obtain ⟨v15, e16, hf⟩ := pm_bd hf
  refine pm_callV (as := [.int s2, .int s1, .int s0, .int v12]) (st := []) C X dX1_emitBranch_38 lnX1_322 myX1_emit viX1_emit ⟨by decide, by decide⟩ rfl rfl k14 (Nat.le_of_ble_eq_true rfl) kc1 kc2 (ctX1_emit e16 ?_)
  have K17 := pm_S3.trans (kpX1_emit e16) K0
  show pm_G g 41 [(0, .ref x0), (2, .int x2), (3, .int x3)] [.int v15.1] v15.2 (pm_sz h - pm_sz h0) (pm_us h - pm_us h0)
  refine pm_istore (lv' := [(5, .int v15.1), (0, .ref x0), (2, .int x2), (3, .int x3)]) C dX1_emitBranch_41 (pm_nl X (by decide)) rfl ?_
  refine pm_iload_n C dX1_emitBranch_43 rfl rfl ?_
  refine pm_if_ne (tgt := 60) C dX1_emitBranch_44 (by decide) (fun c18 => ?_) (fun c18 => ?_)
  · have hf := pm_ie hf c18
    have hf := Option.some.inj hf
    subst hf
    exact pm_vret C X dX1_emitBranch_60 rfl kc1 kc2 q
  · have hf := pm_it hf c18
    refine pm_iload C dX1_emitBranch_47 rfl ?_
    refine pm_if_lt (tgt := 60) C dX1_emitBranch_49 (by decide) (fun c19 => ?_) (fun c19 => ?_)
    · have hf := pm_it hf c19
      have hf := Option.some.inj hf
      subst hf
      exact pm_vret C X dX1_emitBranch_60 rfl kc1 kc2 q
    · have hf := pm_ie hf c19
      refine pm_aload_n C dX1_emitBranch_52 rfl rfl ?_
      refine pm_iload_n C dX1_emitBranch_53 rfl rfl ?_
      refine pm_iconst (v := 5) C dX1_emitBranch_54 (by decide) ?_
      refine pm_iload C dX1_emitBranch_55 rfl ?_
      obtain ⟨k20, hf⟩ := pm_if hf
      obtain ⟨v21, e22, hf⟩ := pm_bd hf
      refine pm_callV (as := [.int x2, .int 5, .int v15.1]) (st := []) C X dX1_emitBranch_57 lnX1_280 myX1_setLabel viX1_setLabel ⟨by decide, by decide⟩ rfl rfl k20 (Nat.le_of_ble_eq_true rfl) kc1 kc2 (ctX1_setLabel e22 ?_)
      have K23 := pm_S3.trans (kpX1_setLabel e22) K17
      show pm_G g 60 [(5, .int v15.1), (0, .ref x0), (2, .int x2), (3, .int x3)] [] v21 (pm_sz h - pm_sz h0) (pm_us h - pm_us h0)
      have hf := Option.some.inj hf
      subst hf
      exact pm_vret C X dX1_emitBranch_60 rfl kc1 kc2 q
set_option maxHeartbeats 4000000 in
set_option maxRecDepth 100000 in
theorem bX1_emitBranch_18 {g : pm_Gm} {l : Launch} {G : pm_Gl} {Qr : Option Value → pm_H → Prop} (C : pm_C g cX1_emitBranch RX1) {h0 h : pm_H} {x0 : Nat} {x1 : Int32} {x2 : Int32} {x3 : Int32} {s0 : Int32} {s1 : Int32} {s2 : Nat} {r : pm_H} (X : pm_X g l G mX1_emitBranch (pm_sz r - pm_sz h0) (pm_us r - pm_us h0) Qr) (m0 : pm_Le h0 h) (hf : fX1_emitBranch_b18 h x0 x1 x2 x3 s0 s1 s2 = some r) (q : Qr none r) : pm_G g 18 [(0, .ref x0), (1, .int x1), (2, .int x2), (3, .int x3)] [.int s0, .int s1, .ref s2] h (pm_sz h - pm_sz h0) (pm_us h - pm_us h0) := by
  have le0 := moX1_emitBranch_b18 hf
  have kc1 := Nat.sub_le_sub_right le0.1 (pm_sz h0)
  have kc2 := Nat.sub_le_sub_right le0.2 (pm_us h0)
  have K0 := pm_S3.rf h
  unfold fX1_emitBranch_b18 at hf
  obtain ⟨k5, hf⟩ := pm_if hf
  obtain ⟨v6, e7, hf⟩ := pm_bd hf
  refine pm_callV (as := [.int s1, .int s0]) (st := []) C X dX1_emitBranch_18 lnX1_284 myX1_label viX1_label ⟨by decide, by decide⟩ rfl rfl k5 (Nat.le_of_ble_eq_true rfl) kc1 kc2 (ctX1_label e7 ?_)
  show pm_G g 21 [(0, .ref x0), (1, .int x1), (2, .int x2), (3, .int x3)] [.int v6] h (pm_sz h - pm_sz h0) (pm_us h - pm_us h0)
  refine pm_istore (lv' := [(4, .int v6), (0, .ref x0), (1, .int x1), (2, .int x2), (3, .int x3)]) C dX1_emitBranch_21 (pm_nl X (by decide)) rfl ?_
  refine pm_aload_n C dX1_emitBranch_23 rfl rfl ?_
  refine pm_iload_n C dX1_emitBranch_24 rfl rfl ?_
  refine pm_iload C dX1_emitBranch_25 rfl ?_
  refine pm_aload_n C dX1_emitBranch_27 rfl rfl ?_
  refine pm_iload_n C dX1_emitBranch_28 rfl rfl ?_
  obtain ⟨k8, hf⟩ := pm_if hf
  obtain ⟨v9, e10, hf⟩ := pm_bd hf
  refine pm_callV (as := [.int x2]) (st := [.int v6, .int x1, .ref x0]) C X dX1_emitBranch_29 lnX1_311 myX1_wantedCount viX1_wantedCount ⟨by decide, by decide⟩ rfl rfl k8 (Nat.le_of_ble_eq_true rfl) (pa_le1 K0 m0 (moX1_wantedCount e10) (moX1_emitBranch_b32 hf)) (pa_le2 K0 m0 (moX1_wantedCount e10) (moX1_emitBranch_b32 hf)) (ctX1_wantedCount e10 ?_)
  show pm_G g 32 [(4, .int v6), (0, .ref x0), (1, .int x1), (2, .int x2), (3, .int x3)] [.int v9.1, .int v6, .int x1, .ref x0] v9.2 (pm_sz h - pm_sz h0 + (pm_sz v9.2 - pm_sz h)) (pm_us h - pm_us h0 + (pm_us v9.2 - pm_us h))
  refine pa_fin K0 m0 (moX1_wantedCount e10) ?_
  exact pm_sub [1, 3, 4] rfl (bX1_emitBranch_32 C X ((m0.trans (pm_S3.le K0)).trans (moX1_wantedCount e10)) hf q)
set_option maxHeartbeats 4000000 in
set_option maxRecDepth 100000 in
theorem bX1_emitBranch_0 {g : pm_Gm} {l : Launch} {G : pm_Gl} {Qr : Option Value → pm_H → Prop} (C : pm_C g cX1_emitBranch RX1) {h0 h : pm_H} {x0 : Nat} {x1 : Int32} {x2 : Int32} {r : pm_H} (X : pm_X g l G mX1_emitBranch (pm_sz r - pm_sz h0) (pm_us r - pm_us h0) Qr) (m0 : pm_Le h0 h) (hf : fX1_emitBranch_b0 h x0 x1 x2 = some r) (q : Qr none r) : pm_G g 0 [(0, .ref x0), (1, .int x1), (2, .int x2)] [] h (pm_sz h - pm_sz h0) (pm_us h - pm_us h0) := by
  have le0 := moX1_emitBranch_b0 hf
  have kc1 := Nat.sub_le_sub_right le0.1 (pm_sz h0)
  have kc2 := Nat.sub_le_sub_right le0.2 (pm_us h0)
  have K0 := pm_S3.rf h
  unfold fX1_emitBranch_b0 at hf
  refine pm_aload_n C dX1_emitBranch_0 rfl rfl ?_
  refine pm_iload_n C dX1_emitBranch_1 rfl rfl ?_
  obtain ⟨k1, hf⟩ := pm_if hf
  obtain ⟨v2, e3, hf⟩ := pm_bd hf
  refine pm_callV (as := [.int x2]) (st := []) C X dX1_emitBranch_2 lnX1_304 myX1_isLoop viX1_isLoop ⟨by decide, by decide⟩ rfl rfl k1 (Nat.le_of_ble_eq_true rfl) kc1 kc2 (ctX1_isLoop e3 ?_)
  show pm_G g 5 [(0, .ref x0), (1, .int x1), (2, .int x2)] [.int v2] h (pm_sz h - pm_sz h0) (pm_us h - pm_us h0)
  refine pm_istore_n (lv' := [(3, .int v2), (0, .ref x0), (1, .int x1), (2, .int x2)]) C dX1_emitBranch_5 rfl (pm_nl X (by decide)) rfl ?_
  refine pm_aload_n C dX1_emitBranch_6 rfl rfl ?_
  refine pm_iload_n C dX1_emitBranch_7 rfl rfl ?_
  refine pm_iload_n C dX1_emitBranch_8 rfl rfl ?_
  refine pm_if_eq (tgt := 17) C dX1_emitBranch_9 (by decide) (fun c4 => ?_) (fun c4 => ?_)
  · have hf := pm_it hf c4
    refine pm_iconst (v := 5) C dX1_emitBranch_17 (by decide) ?_
    exact pa_join K0 (pm_sub [1, 2, 3, 0] rfl (bX1_emitBranch_18 C X (m0.trans (pm_S3.le K0)) hf q))
  · have hf := pm_ie hf c4
    refine pm_bipush (v := 6) C dX1_emitBranch_12 (by decide) ?_
    refine pm_goto (tgt := 18) C dX1_emitBranch_14 (by decide) ?_
    exact pa_join K0 (pm_sub [1, 2, 3, 0] rfl (bX1_emitBranch_18 C X (m0.trans (pm_S3.le K0)) hf q))
set_option maxHeartbeats 4000000 in
set_option maxRecDepth 100000 in
theorem ctX1_emitBranch {l : Launch} {G : pm_Gl} {h : pm_H} {a0 : Nat} {p1 : Int32} {p2 : Int32} {r : pm_H} {Qr : Option Value → pm_H → Prop} (hf : fX1_emitBranch h a0 p1 p2 = some r) (q : Qr none r) : pm_Ct l G mX1_emitBranch [.ref a0, .int p1, .int p2] h (pm_sz r - pm_sz h) (pm_us r - pm_us h) Qr := by
  refine pm_body pnX1 (Nat.le_of_ble_eq_true rfl) (fun g C X => ?_)
  have C : pm_C g cX1_emitBranch RX1 := C
  show pm_G g 0 [(0, .ref a0), (1, .int p1), (2, .int p2)] [] h 0 0
  unfold fX1_emitBranch at hf
  exact pa_start (pm_sub [0, 1, 2] rfl (bX1_emitBranch_0 C X (pm_Le.rf h) hf q))
