theorem dX1_callByTable_0 : decode cX1_callByTable 0 = .ok (.aload_n 0, 1) := by decide +kernel
theorem dX1_callByTable_1 : decode cX1_callByTable 1 = .ok (.getfield 36, 3) := by decide +kernel
theorem dX1_callByTable_4 : decode cX1_callByTable 4 = .ok (.getfield 201, 3) := by decide +kernel
theorem dX1_callByTable_7 : decode cX1_callByTable 7 = .ok (.aload_n 0, 1) := by decide +kernel
theorem dX1_callByTable_8 : decode cX1_callByTable 8 = .ok (.getfield 40, 3) := by decide +kernel
theorem dX1_callByTable_11 : decode cX1_callByTable 11 = .ok (.getfield 116, 3) := by decide +kernel
theorem dX1_callByTable_14 : decode cX1_callByTable 14 = .ok (.arraylength, 1) := by decide +kernel
theorem dX1_callByTable_15 : decode cX1_callByTable 15 = .ok (.i2l, 1) := by decide +kernel
theorem dX1_callByTable_16 : decode cX1_callByTable 16 = .ok (.lcmp, 1) := by decide +kernel
theorem dX1_callByTable_17 : decode cX1_callByTable 17 = .ok (.ifCond .ge 25, 3) := by decide +kernel
theorem dX1_callByTable_20 : decode cX1_callByTable 20 = .ok (.aload_n 0, 1) := by decide +kernel
theorem dX1_callByTable_21 : decode cX1_callByTable 21 = .ok (.getfield 40, 3) := by decide +kernel
theorem dX1_callByTable_24 : decode cX1_callByTable 24 = .ok (.iconst 1, 1) := by decide +kernel
theorem dX1_callByTable_25 : decode cX1_callByTable 25 = .ok (.aload_n 0, 1) := by decide +kernel
theorem dX1_callByTable_26 : decode cX1_callByTable 26 = .ok (.getfield 36, 3) := by decide +kernel
theorem dX1_callByTable_29 : decode cX1_callByTable 29 = .ok (.getfield 325, 3) := by decide +kernel
theorem dX1_callByTable_32 : decode cX1_callByTable 32 = .ok (.invokevirtual 146, 3) := by decide +kernel
theorem dX1_callByTable_35 : decode cX1_callByTable 35 = .ok (.ifCond .eq 7, 3) := by decide +kernel
theorem dX1_callByTable_38 : decode cX1_callByTable 38 = .ok (.iconst 1, 1) := by decide +kernel
theorem dX1_callByTable_39 : decode cX1_callByTable 39 = .ok (.goto 4, 3) := by decide +kernel
theorem dX1_callByTable_42 : decode cX1_callByTable 42 = .ok (.iconst 0, 1) := by decide +kernel
theorem dX1_callByTable_43 : decode cX1_callByTable 43 = .ok (.istore_n 1, 1) := by decide +kernel
theorem dX1_callByTable_44 : decode cX1_callByTable 44 = .ok (.iload_n 1, 1) := by decide +kernel
theorem dX1_callByTable_45 : decode cX1_callByTable 45 = .ok (.ifCond .eq 27, 3) := by decide +kernel
theorem dX1_callByTable_48 : decode cX1_callByTable 48 = .ok (.aload_n 0, 1) := by decide +kernel
theorem dX1_callByTable_49 : decode cX1_callByTable 49 = .ok (.getfield 40, 3) := by decide +kernel
theorem dX1_callByTable_52 : decode cX1_callByTable 52 = .ok (.iconst 1, 1) := by decide +kernel
theorem dX1_callByTable_53 : decode cX1_callByTable 53 = .ok (.aload_n 0, 1) := by decide +kernel
theorem dX1_callByTable_54 : decode cX1_callByTable 54 = .ok (.getfield 36, 3) := by decide +kernel
theorem dX1_callByTable_57 : decode cX1_callByTable 57 = .ok (.getfield 325, 3) := by decide +kernel
theorem dX1_callByTable_60 : decode cX1_callByTable 60 = .ok (.l2i, 1) := by decide +kernel
theorem dX1_callByTable_61 : decode cX1_callByTable 61 = .ok (.iconst 1, 1) := by decide +kernel
theorem dX1_callByTable_62 : decode cX1_callByTable 62 = .ok (.invokevirtual 122, 3) := by decide +kernel
theorem dX1_callByTable_65 : decode cX1_callByTable 65 = .ok (.ldc2_w 425, 3) := by decide +kernel
theorem dX1_callByTable_68 : decode cX1_callByTable 68 = .ok (.lcmp, 1) := by decide +kernel
theorem dX1_callByTable_69 : decode cX1_callByTable 69 = .ok (.ifCond .eq 10, 3) := by decide +kernel
theorem dX1_callByTable_72 : decode cX1_callByTable 72 = .ok (.aload_n 0, 1) := by decide +kernel
theorem dX1_callByTable_73 : decode cX1_callByTable 73 = .ok (.bipush 30, 2) := by decide +kernel
theorem dX1_callByTable_75 : decode cX1_callByTable 75 = .ok (.invokevirtual 198, 3) := by decide +kernel
theorem dX1_callByTable_78 : decode cX1_callByTable 78 = .ok (.return_, 1) := by decide +kernel
theorem dX1_callByTable_79 : decode cX1_callByTable 79 = .ok (.aload_n 0, 1) := by decide +kernel
theorem dX1_callByTable_80 : decode cX1_callByTable 80 = .ok (.getfield 40, 3) := by decide +kernel
theorem dX1_callByTable_83 : decode cX1_callByTable 83 = .ok (.aload_n 0, 1) := by decide +kernel
theorem dX1_callByTable_84 : decode cX1_callByTable 84 = .ok (.getfield 36, 3) := by decide +kernel
theorem dX1_callByTable_87 : decode cX1_callByTable 87 = .ok (.getfield 201, 3) := by decide +kernel
theorem dX1_callByTable_90 : decode cX1_callByTable 90 = .ok (.l2i, 1) := by decide +kernel
theorem dX1_callByTable_91 : decode cX1_callByTable 91 = .ok (.invokevirtual 287, 3) := by decide +kernel
theorem dX1_callByTable_94 : decode cX1_callByTable 94 = .ok (.astore_n 2, 1) := by decide +kernel
theorem dX1_callByTable_95 : decode cX1_callByTable 95 = .ok (.aload_n 0, 1) := by decide +kernel
theorem dX1_callByTable_96 : decode cX1_callByTable 96 = .ok (.bipush 127, 2) := by decide +kernel
theorem dX1_callByTable_98 : decode cX1_callByTable 98 = .ok (.invokevirtual 289, 3) := by decide +kernel
theorem dX1_callByTable_101 : decode cX1_callByTable 101 = .ok (.pop, 1) := by decide +kernel
theorem dX1_callByTable_102 : decode cX1_callByTable 102 = .ok (.aload_n 0, 1) := by decide +kernel
theorem dX1_callByTable_103 : decode cX1_callByTable 103 = .ok (.aload_n 2, 1) := by decide +kernel
theorem dX1_callByTable_104 : decode cX1_callByTable 104 = .ok (.invokevirtual 387, 3) := by decide +kernel
theorem dX1_callByTable_107 : decode cX1_callByTable 107 = .ok (.aload_n 0, 1) := by decide +kernel
theorem dX1_callByTable_108 : decode cX1_callByTable 108 = .ok (.aload_n 2, 1) := by decide +kernel
theorem dX1_callByTable_109 : decode cX1_callByTable 109 = .ok (.invokevirtual 412, 3) := by decide +kernel
theorem dX1_callByTable_112 : decode cX1_callByTable 112 = .ok (.aload_n 0, 1) := by decide +kernel
theorem dX1_callByTable_113 : decode cX1_callByTable 113 = .ok (.bipush 17, 2) := by decide +kernel
theorem dX1_callByTable_115 : decode cX1_callByTable 115 = .ok (.aload_n 0, 1) := by decide +kernel
theorem dX1_callByTable_116 : decode cX1_callByTable 116 = .ok (.getfield 36, 3) := by decide +kernel
theorem dX1_callByTable_119 : decode cX1_callByTable 119 = .ok (.getfield 201, 3) := by decide +kernel
theorem dX1_callByTable_122 : decode cX1_callByTable 122 = .ok (.l2i, 1) := by decide +kernel
theorem dX1_callByTable_123 : decode cX1_callByTable 123 = .ok (.aload_n 0, 1) := by decide +kernel
theorem dX1_callByTable_124 : decode cX1_callByTable 124 = .ok (.getfield 36, 3) := by decide +kernel
theorem dX1_callByTable_127 : decode cX1_callByTable 127 = .ok (.getfield 325, 3) := by decide +kernel
theorem dX1_callByTable_130 : decode cX1_callByTable 130 = .ok (.l2i, 1) := by decide +kernel
theorem dX1_callByTable_131 : decode cX1_callByTable 131 = .ok (.aload_n 2, 1) := by decide +kernel
theorem dX1_callByTable_132 : decode cX1_callByTable 132 = .ok (.iconst 0, 1) := by decide +kernel
theorem dX1_callByTable_133 : decode cX1_callByTable 133 = .ok (.invokestatic 105, 3) := by decide +kernel
theorem dX1_callByTable_136 : decode cX1_callByTable 136 = .ok (.invokevirtual 322, 3) := by decide +kernel
theorem dX1_callByTable_139 : decode cX1_callByTable 139 = .ok (.pop, 1) := by decide +kernel
theorem dX1_callByTable_140 : decode cX1_callByTable 140 = .ok (.return_, 1) := by decide +kernel
noncomputable def fX1_callByTable_b94 (h : pm_H) (x0 : Nat) (s0 : Nat) : Option pm_H := if pm_kd h x0 = 1 then (fX1_take h x0 127).bind fun v36 => if pm_kd v36.2 x0 = 1 then (fX1_takeParameters v36.2 x0 s0).bind fun v40 => if pm_kd v40 x0 = 1 then (fX1_putResults v40 x0 s0).bind fun v44 => if pm_kd v44 x0 = 1 then (pm_R v44 x0 3).bind fun v48 => if pm_kd v44 v48 = 9 then (fX12_item v44 s0 0).bind fun v51 => (fX1_emit v44 x0 17 ((pm_L v44 v48 8).toInt32) ((pm_L v44 v48 9).toInt32) v51).bind fun v53 => some v53.2 else none else none else none else none else none
noncomputable def fX1_callByTable_b43 (h : pm_H) (x0 : Nat) (s0 : Int32) : Option pm_H := if s0 = 0 then (if pm_kd h x0 = 1 then (fX1_fail h x0 30).bind fun v17 => some v17 else none) else (if pm_kd h x0 = 1 then (pm_R h x0 2).bind fun v21 => (pm_R h x0 3).bind fun v23 => if pm_kd h v23 = 9 then if pm_kd h v21 = 7 then (fX7_of h v21 1 ((pm_L h v23 9).toInt32) 1).bind fun v27 => if v27 = 112 then ((fX7_shape h v21 ((pm_L h v23 8).toInt32)).bind fun v30 => fX1_callByTable_b94 v30.2 x0 v30.1) else ((fX1_fail h x0 30).bind fun v32 => some v32) else none else none else none)
noncomputable def fX1_callByTable_b42 (h : pm_H) (x0 : Nat) : Option pm_H := fX1_callByTable_b43 h x0 0
noncomputable def fX1_callByTable_b0 (h : pm_H) (x0 : Nat) : Option pm_H := if pm_kd h x0 = 1 then (pm_R h x0 3).bind fun v2 => if pm_kd h v2 = 9 then (pm_R h x0 2).bind fun v5 => if pm_kd h v5 = 7 then (pm_R h v5 2).bind fun v8 => if pm_kd h v8 = 36 then if ((Int32.ofNat (pm_ln h v8)).toInt64) ≤ (pm_L h v2 8) then (fX1_callByTable_b42 h x0) else ((fX7_has h v5 1 (pm_L h v2 9)).bind fun v12 => if v12 = 0 then (fX1_callByTable_b42 h x0) else (fX1_callByTable_b43 h x0 1)) else none else none else none else none
noncomputable def fX1_callByTable (h : pm_H) (a0 : Nat) : Option pm_H := fX1_callByTable_b0 h a0
set_option maxHeartbeats 4000000 in
set_option maxRecDepth 100000 in
theorem moX1_callByTable_b94 {h : pm_H} {x0 : Nat} {s0 : Nat} {r : pm_H} (hf : fX1_callByTable_b94 h x0 s0 = some r) : pm_Le h r := by
  unfold fX1_callByTable_b94 at hf
  have K0 := pm_S3.rf h
  obtain ⟨k35, hf⟩ := pm_if hf
  obtain ⟨v36, e37, hf⟩ := pm_bd hf
  have K38 := pm_S3.trans (kpX1_take e37) K0
  obtain ⟨k39, hf⟩ := pm_if hf
  obtain ⟨v40, e41, hf⟩ := pm_bd hf
  have K42 := pm_S3.trans (kpX1_takeParameters e41) K38
  obtain ⟨k43, hf⟩ := pm_if hf
  obtain ⟨v44, e45, hf⟩ := pm_bd hf
  have K46 := pm_S3.trans (kpX1_putResults e45) K42
  obtain ⟨k47, hf⟩ := pm_if hf
  obtain ⟨v48, e49, hf⟩ := pm_bd hf
  obtain ⟨k50, hf⟩ := pm_if hf
  obtain ⟨v51, e52, hf⟩ := pm_bd hf
  obtain ⟨v53, e54, hf⟩ := pm_bd hf
  have K55 := pm_S3.trans (kpX1_emit e54) K46
  have hf := Option.some.inj hf
  subst hf
  exact pm_S3.le K55
set_option maxHeartbeats 4000000 in
set_option maxRecDepth 100000 in
theorem moX1_callByTable_b43 {h : pm_H} {x0 : Nat} {s0 : Int32} {r : pm_H} (hf : fX1_callByTable_b43 h x0 s0 = some r) : pm_Le h r := by
  unfold fX1_callByTable_b43 at hf
  have K0 := pm_S3.rf h
  by_cases c15 : s0 = 0
  · have hf := pm_it hf c15
    obtain ⟨k16, hf⟩ := pm_if hf
    obtain ⟨v17, e18, hf⟩ := pm_bd hf
    have K19 := pm_S3.trans (kpX1_fail e18) K0
    have hf := Option.some.inj hf
    subst hf
    exact pm_S3.le K19
  · have hf := pm_ie hf c15
    obtain ⟨k20, hf⟩ := pm_if hf
    obtain ⟨v21, e22, hf⟩ := pm_bd hf
    obtain ⟨v23, e24, hf⟩ := pm_bd hf
    obtain ⟨k25, hf⟩ := pm_if hf
    obtain ⟨k26, hf⟩ := pm_if hf
    obtain ⟨v27, e28, hf⟩ := pm_bd hf
    by_cases c29 : v27 = 112
    · have hf := pm_it hf c29
      obtain ⟨v30, e31, hf⟩ := pm_bd hf
      exact ((pm_S3.le K0).trans (moX7_shape e31)).trans (moX1_callByTable_b94 hf)
    · have hf := pm_ie hf c29
      obtain ⟨v32, e33, hf⟩ := pm_bd hf
      have K34 := pm_S3.trans (kpX1_fail e33) K0
      have hf := Option.some.inj hf
      subst hf
      exact pm_S3.le K34
set_option maxHeartbeats 4000000 in
set_option maxRecDepth 100000 in
theorem moX1_callByTable_b42 {h : pm_H} {x0 : Nat} {r : pm_H} (hf : fX1_callByTable_b42 h x0 = some r) : pm_Le h r := by
  unfold fX1_callByTable_b42 at hf
  have K0 := pm_S3.rf h
  exact (pm_S3.le K0).trans (moX1_callByTable_b43 hf)
set_option maxHeartbeats 4000000 in
set_option maxRecDepth 100000 in
theorem moX1_callByTable_b0 {h : pm_H} {x0 : Nat} {r : pm_H} (hf : fX1_callByTable_b0 h x0 = some r) : pm_Le h r := by
  unfold fX1_callByTable_b0 at hf
  have K0 := pm_S3.rf h
  obtain ⟨k1, hf⟩ := pm_if hf
  obtain ⟨v2, e3, hf⟩ := pm_bd hf
  obtain ⟨k4, hf⟩ := pm_if hf
  obtain ⟨v5, e6, hf⟩ := pm_bd hf
  obtain ⟨k7, hf⟩ := pm_if hf
  obtain ⟨v8, e9, hf⟩ := pm_bd hf
  obtain ⟨k10, hf⟩ := pm_if hf
  by_cases c11 : ((Int32.ofNat (pm_ln h v8)).toInt64) ≤ (pm_L h v2 8)
  · have hf := pm_it hf c11
    exact (pm_S3.le K0).trans (moX1_callByTable_b42 hf)
  · have hf := pm_ie hf c11
    obtain ⟨v12, e13, hf⟩ := pm_bd hf
    by_cases c14 : v12 = 0
    · have hf := pm_it hf c14
      exact (pm_S3.le K0).trans (moX1_callByTable_b42 hf)
    · have hf := pm_ie hf c14
      exact (pm_S3.le K0).trans (moX1_callByTable_b43 hf)
set_option maxHeartbeats 4000000 in
set_option maxRecDepth 100000 in
theorem moX1_callByTable {h : pm_H} {a0 : Nat} {r : pm_H} (hf : fX1_callByTable h a0 = some r) : pm_Le h r := by
  unfold fX1_callByTable at hf
  have K0 := pm_S3.rf h
  exact (pm_S3.le K0).trans (moX1_callByTable_b0 hf)
set_option maxHeartbeats 4000000 in
set_option maxRecDepth 100000 in
theorem bX1_callByTable_94 {g : pm_Gm} {l : Launch} {G : pm_Gl} {Qr : Option Value → pm_H → Prop} (C : pm_C g cX1_callByTable RX1) {h0 h : pm_H} {x0 : Nat} {s0 : Nat} {r : pm_H} (X : pm_X g l G mX1_callByTable (pm_sz r - pm_sz h0) (pm_us r - pm_us h0) Qr) (m0 : pm_Le h0 h) (hf : fX1_callByTable_b94 h x0 s0 = some r) (q : Qr none r) : pm_G g 94 [(0, .ref x0)] [.ref s0] h (pm_sz h - pm_sz h0) (pm_us h - pm_us h0) := by
  have le0 := moX1_callByTable_b94 hf
  have kc1 := Nat.sub_le_sub_right le0.1 (pm_sz h0)
  have kc2 := Nat.sub_le_sub_right le0.2 (pm_us h0)
  have K0 := pm_S3.rf h
  unfold fX1_callByTable_b94 at hf
  refine pm_astore_n (lv' := [(2, .ref s0), (0, .ref x0)]) C dX1_callByTable_94 rfl (pm_nl X (by decide)) rfl ?_
  refine pm_aload_n C dX1_callByTable_95 rfl rfl ?_
  refine pm_bipush (v := 127) C dX1_callByTable_96 (by decide) ?_
  obtain ⟨k35, hf⟩ := pm_if hf
  obtain ⟨v36, e37, hf⟩ := pm_bd hf
  refine pm_callV (as := [.int 127]) (st := []) C X dX1_callByTable_98 lnX1_289 myX1_take viX1_take ⟨by decide, by decide⟩ rfl rfl k35 (Nat.le_of_ble_eq_true rfl) kc1 kc2 (ctX1_take e37 ?_)
  have K38 := pm_S3.trans (kpX1_take e37) K0
  show pm_G g 101 [(2, .ref s0), (0, .ref x0)] [.int v36.1] v36.2 (pm_sz h - pm_sz h0) (pm_us h - pm_us h0)
  refine pm_pop C dX1_callByTable_101 rfl ?_
  refine pm_aload_n C dX1_callByTable_102 rfl rfl ?_
  refine pm_aload_n C dX1_callByTable_103 rfl rfl ?_
  obtain ⟨k39, hf⟩ := pm_if hf
  obtain ⟨v40, e41, hf⟩ := pm_bd hf
  refine pm_callV (as := [.ref s0]) (st := []) C X dX1_callByTable_104 lnX1_387 myX1_takeParameters viX1_takeParameters ⟨by decide, by decide⟩ rfl rfl k39 (Nat.le_of_ble_eq_true rfl) kc1 kc2 (ctX1_takeParameters e41 ?_)
  have K42 := pm_S3.trans (kpX1_takeParameters e41) K38
  show pm_G g 107 [(2, .ref s0), (0, .ref x0)] [] v40 (pm_sz h - pm_sz h0) (pm_us h - pm_us h0)
  refine pm_aload_n C dX1_callByTable_107 rfl rfl ?_
  refine pm_aload_n C dX1_callByTable_108 rfl rfl ?_
  obtain ⟨k43, hf⟩ := pm_if hf
  obtain ⟨v44, e45, hf⟩ := pm_bd hf
  refine pm_callV (as := [.ref s0]) (st := []) C X dX1_callByTable_109 lnX1_412 myX1_putResults viX1_putResults ⟨by decide, by decide⟩ rfl rfl k43 (Nat.le_of_ble_eq_true rfl) kc1 kc2 (ctX1_putResults e45 ?_)
  have K46 := pm_S3.trans (kpX1_putResults e45) K42
  show pm_G g 112 [(2, .ref s0), (0, .ref x0)] [] v44 (pm_sz h - pm_sz h0) (pm_us h - pm_us h0)
  refine pm_aload_n C dX1_callByTable_112 rfl rfl ?_
  refine pm_bipush (v := 17) C dX1_callByTable_113 (by decide) ?_
  refine pm_aload_n C dX1_callByTable_115 rfl rfl ?_
  obtain ⟨k47, hf⟩ := pm_if hf
  obtain ⟨v48, e49, hf⟩ := pm_bd hf
  refine pm_getR C dX1_callByTable_116 flX1_36 rfl k47 e49 ?_
  obtain ⟨k50, hf⟩ := pm_if hf
  refine pm_getL C dX1_callByTable_119 flX1_201 rfl k50 rfl ?_
  refine pm_l2i C dX1_callByTable_122 ?_
  refine pm_aload_n C dX1_callByTable_123 rfl rfl ?_
  refine pm_getR C dX1_callByTable_124 flX1_36 rfl k47 e49 ?_
  refine pm_getL C dX1_callByTable_127 flX1_325 rfl k50 rfl ?_
  refine pm_l2i C dX1_callByTable_130 ?_
  refine pm_aload_n C dX1_callByTable_131 rfl rfl ?_
  refine pm_iconst (v := 0) C dX1_callByTable_132 (by decide) ?_
  obtain ⟨v51, e52, hf⟩ := pm_bd hf
  refine pm_callS (as := [.ref s0, .int 0]) (st := [.int ((pm_L v44 v48 9).toInt32), .int ((pm_L v44 v48 8).toInt32), .int 17, .ref x0]) C X dX1_callByTable_133 lnX1_105 myX12_item stX12_item ⟨by decide, by decide⟩ rfl rfl (Nat.le_of_ble_eq_true rfl) kc1 kc2 (ctX12_item e52 ?_)
  show pm_G g 136 [(2, .ref s0), (0, .ref x0)] [.int v51, .int ((pm_L v44 v48 9).toInt32), .int ((pm_L v44 v48 8).toInt32), .int 17, .ref x0] v44 (pm_sz h - pm_sz h0) (pm_us h - pm_us h0)
  obtain ⟨v53, e54, hf⟩ := pm_bd hf
  refine pm_callV (as := [.int 17, .int ((pm_L v44 v48 8).toInt32), .int ((pm_L v44 v48 9).toInt32), .int v51]) (st := []) C X dX1_callByTable_136 lnX1_322 myX1_emit viX1_emit ⟨by decide, by decide⟩ rfl rfl k47 (Nat.le_of_ble_eq_true rfl) kc1 kc2 (ctX1_emit e54 ?_)
  have K55 := pm_S3.trans (kpX1_emit e54) K46
  show pm_G g 139 [(2, .ref s0), (0, .ref x0)] [.int v53.1] v53.2 (pm_sz h - pm_sz h0) (pm_us h - pm_us h0)
  refine pm_pop C dX1_callByTable_139 rfl ?_
  have hf := Option.some.inj hf
  subst hf
  exact pm_vret C X dX1_callByTable_140 rfl kc1 kc2 q
set_option maxHeartbeats 4000000 in
set_option maxRecDepth 100000 in
theorem bX1_callByTable_43 {g : pm_Gm} {l : Launch} {G : pm_Gl} {Qr : Option Value → pm_H → Prop} (C : pm_C g cX1_callByTable RX1) {h0 h : pm_H} {x0 : Nat} {s0 : Int32} {r : pm_H} (X : pm_X g l G mX1_callByTable (pm_sz r - pm_sz h0) (pm_us r - pm_us h0) Qr) (m0 : pm_Le h0 h) (hf : fX1_callByTable_b43 h x0 s0 = some r) (q : Qr none r) : pm_G g 43 [(0, .ref x0)] [.int s0] h (pm_sz h - pm_sz h0) (pm_us h - pm_us h0) := by
  have le0 := moX1_callByTable_b43 hf
  have kc1 := Nat.sub_le_sub_right le0.1 (pm_sz h0)
  have kc2 := Nat.sub_le_sub_right le0.2 (pm_us h0)
  have K0 := pm_S3.rf h
  unfold fX1_callByTable_b43 at hf
  refine pm_istore_n (lv' := [(1, .int s0), (0, .ref x0)]) C dX1_callByTable_43 rfl (pm_nl X (by decide)) rfl ?_
  refine pm_iload_n C dX1_callByTable_44 rfl rfl ?_
  refine pm_if_eq (tgt := 72) C dX1_callByTable_45 (by decide) (fun c15 => ?_) (fun c15 => ?_)
  · have hf := pm_it hf c15
    refine pm_aload_n C dX1_callByTable_72 rfl rfl ?_
    refine pm_bipush (v := 30) C dX1_callByTable_73 (by decide) ?_
    obtain ⟨k16, hf⟩ := pm_if hf
    obtain ⟨v17, e18, hf⟩ := pm_bd hf
    refine pm_callV (as := [.int 30]) (st := []) C X dX1_callByTable_75 lnX1_198 myX1_fail viX1_fail ⟨by decide, by decide⟩ rfl rfl k16 (Nat.le_of_ble_eq_true rfl) kc1 kc2 (ctX1_fail e18 ?_)
    have K19 := pm_S3.trans (kpX1_fail e18) K0
    show pm_G g 78 [(1, .int s0), (0, .ref x0)] [] v17 (pm_sz h - pm_sz h0) (pm_us h - pm_us h0)
    have hf := Option.some.inj hf
    subst hf
    exact pm_vret C X dX1_callByTable_78 rfl kc1 kc2 q
  · have hf := pm_ie hf c15
    refine pm_aload_n C dX1_callByTable_48 rfl rfl ?_
    obtain ⟨k20, hf⟩ := pm_if hf
    obtain ⟨v21, e22, hf⟩ := pm_bd hf
    refine pm_getR C dX1_callByTable_49 flX1_40 rfl k20 e22 ?_
    refine pm_iconst (v := 1) C dX1_callByTable_52 (by decide) ?_
    refine pm_aload_n C dX1_callByTable_53 rfl rfl ?_
    obtain ⟨v23, e24, hf⟩ := pm_bd hf
    refine pm_getR C dX1_callByTable_54 flX1_36 rfl k20 e24 ?_
    obtain ⟨k25, hf⟩ := pm_if hf
    refine pm_getL C dX1_callByTable_57 flX1_325 rfl k25 rfl ?_
    refine pm_l2i C dX1_callByTable_60 ?_
    refine pm_iconst (v := 1) C dX1_callByTable_61 (by decide) ?_
    obtain ⟨k26, hf⟩ := pm_if hf
    obtain ⟨v27, e28, hf⟩ := pm_bd hf
    refine pm_callV (as := [.int 1, .int ((pm_L h v23 9).toInt32), .int 1]) (st := []) C X dX1_callByTable_62 lnX1_122 myX7_of viX7_of ⟨by decide, by decide⟩ rfl rfl k26 (Nat.le_of_ble_eq_true rfl) kc1 kc2 (ctX7_of e28 ?_)
    show pm_G g 65 [(1, .int s0), (0, .ref x0)] [.long v27] h (pm_sz h - pm_sz h0) (pm_us h - pm_us h0)
    refine pm_ldc2 C dX1_callByTable_65 cnX1_425 ?_
    refine pm_lcmp C dX1_callByTable_68 ?_
    refine pm_if_eq (tgt := 79) C dX1_callByTable_69 (by decide) (fun c29 => ?_) (fun c29 => ?_)
    · have hf := pm_it hf ((pm_lg_eq _ _).mp c29)
      refine pm_aload_n C dX1_callByTable_79 rfl rfl ?_
      refine pm_getR C dX1_callByTable_80 flX1_40 rfl k20 e22 ?_
      refine pm_aload_n C dX1_callByTable_83 rfl rfl ?_
      refine pm_getR C dX1_callByTable_84 flX1_36 rfl k20 e24 ?_
      refine pm_getL C dX1_callByTable_87 flX1_201 rfl k25 rfl ?_
      refine pm_l2i C dX1_callByTable_90 ?_
      obtain ⟨v30, e31, hf⟩ := pm_bd hf
      refine pm_callV (as := [.int ((pm_L h v23 8).toInt32)]) (st := []) C X dX1_callByTable_91 lnX1_287 myX7_shape viX7_shape ⟨by decide, by decide⟩ rfl rfl k26 (Nat.le_of_ble_eq_true rfl) (pa_le1 K0 m0 (moX7_shape e31) (moX1_callByTable_b94 hf)) (pa_le2 K0 m0 (moX7_shape e31) (moX1_callByTable_b94 hf)) (ctX7_shape e31 ?_)
      show pm_G g 94 [(1, .int s0), (0, .ref x0)] [.ref v30.1] v30.2 (pm_sz h - pm_sz h0 + (pm_sz v30.2 - pm_sz h)) (pm_us h - pm_us h0 + (pm_us v30.2 - pm_us h))
      refine pa_fin K0 m0 (moX7_shape e31) ?_
      exact pm_sub [1] rfl (bX1_callByTable_94 C X ((m0.trans (pm_S3.le K0)).trans (moX7_shape e31)) hf q)
    · have hf := pm_ie hf ((fun z => c29 ((pm_lg_eq _ _).mpr z)))
      refine pm_aload_n C dX1_callByTable_72 rfl rfl ?_
      refine pm_bipush (v := 30) C dX1_callByTable_73 (by decide) ?_
      obtain ⟨v32, e33, hf⟩ := pm_bd hf
      refine pm_callV (as := [.int 30]) (st := []) C X dX1_callByTable_75 lnX1_198 myX1_fail viX1_fail ⟨by decide, by decide⟩ rfl rfl k20 (Nat.le_of_ble_eq_true rfl) kc1 kc2 (ctX1_fail e33 ?_)
      have K34 := pm_S3.trans (kpX1_fail e33) K0
      show pm_G g 78 [(1, .int s0), (0, .ref x0)] [] v32 (pm_sz h - pm_sz h0) (pm_us h - pm_us h0)
      have hf := Option.some.inj hf
      subst hf
      exact pm_vret C X dX1_callByTable_78 rfl kc1 kc2 q
set_option maxHeartbeats 4000000 in
set_option maxRecDepth 100000 in
theorem bX1_callByTable_42 {g : pm_Gm} {l : Launch} {G : pm_Gl} {Qr : Option Value → pm_H → Prop} (C : pm_C g cX1_callByTable RX1) {h0 h : pm_H} {x0 : Nat} {r : pm_H} (X : pm_X g l G mX1_callByTable (pm_sz r - pm_sz h0) (pm_us r - pm_us h0) Qr) (m0 : pm_Le h0 h) (hf : fX1_callByTable_b42 h x0 = some r) (q : Qr none r) : pm_G g 42 [(0, .ref x0)] [] h (pm_sz h - pm_sz h0) (pm_us h - pm_us h0) := by
  have le0 := moX1_callByTable_b42 hf
  have kc1 := Nat.sub_le_sub_right le0.1 (pm_sz h0)
  have kc2 := Nat.sub_le_sub_right le0.2 (pm_us h0)
  have K0 := pm_S3.rf h
  unfold fX1_callByTable_b42 at hf
  refine pm_iconst (v := 0) C dX1_callByTable_42 (by decide) ?_
  exact pa_join K0 (pm_sub [0] rfl (bX1_callByTable_43 C X (m0.trans (pm_S3.le K0)) hf q))
set_option maxHeartbeats 4000000 in
set_option maxRecDepth 100000 in
theorem bX1_callByTable_0 {g : pm_Gm} {l : Launch} {G : pm_Gl} {Qr : Option Value → pm_H → Prop} (C : pm_C g cX1_callByTable RX1) {h0 h : pm_H} {x0 : Nat} {r : pm_H} (X : pm_X g l G mX1_callByTable (pm_sz r - pm_sz h0) (pm_us r - pm_us h0) Qr) (m0 : pm_Le h0 h) (hf : fX1_callByTable_b0 h x0 = some r) (q : Qr none r) : pm_G g 0 [(0, .ref x0)] [] h (pm_sz h - pm_sz h0) (pm_us h - pm_us h0) := by
  have le0 := moX1_callByTable_b0 hf
  have kc1 := Nat.sub_le_sub_right le0.1 (pm_sz h0)
  have kc2 := Nat.sub_le_sub_right le0.2 (pm_us h0)
  have K0 := pm_S3.rf h
  unfold fX1_callByTable_b0 at hf
  refine pm_aload_n C dX1_callByTable_0 rfl rfl ?_
  obtain ⟨k1, hf⟩ := pm_if hf
  obtain ⟨v2, e3, hf⟩ := pm_bd hf
  refine pm_getR C dX1_callByTable_1 flX1_36 rfl k1 e3 ?_
  obtain ⟨k4, hf⟩ := pm_if hf
  refine pm_getL C dX1_callByTable_4 flX1_201 rfl k4 rfl ?_
  refine pm_aload_n C dX1_callByTable_7 rfl rfl ?_
  obtain ⟨v5, e6, hf⟩ := pm_bd hf
  refine pm_getR C dX1_callByTable_8 flX1_40 rfl k1 e6 ?_
  obtain ⟨k7, hf⟩ := pm_if hf
  obtain ⟨v8, e9, hf⟩ := pm_bd hf
  refine pm_getR C dX1_callByTable_11 flX1_116 rfl k7 e9 ?_
  obtain ⟨k10, hf⟩ := pm_if hf
  refine pm_alen (t := 4) C dX1_callByTable_14 (by decide) k10 rfl ?_
  refine pm_i2l C dX1_callByTable_15 ?_
  refine pm_lcmp C dX1_callByTable_16 ?_
  refine pm_if_ge (tgt := 42) C dX1_callByTable_17 (by decide) (fun c11 => ?_) (fun c11 => ?_)
  · have hf := pm_it hf ((pm_lg_ge _ _).mp c11)
    exact pa_join K0 (pm_sub [0] rfl (bX1_callByTable_42 C X (m0.trans (pm_S3.le K0)) hf q))
  · have hf := pm_ie hf ((fun z => c11 ((pm_lg_ge _ _).mpr z)))
    refine pm_aload_n C dX1_callByTable_20 rfl rfl ?_
    refine pm_getR C dX1_callByTable_21 flX1_40 rfl k1 e6 ?_
    refine pm_iconst (v := 1) C dX1_callByTable_24 (by decide) ?_
    refine pm_aload_n C dX1_callByTable_25 rfl rfl ?_
    refine pm_getR C dX1_callByTable_26 flX1_36 rfl k1 e3 ?_
    refine pm_getL C dX1_callByTable_29 flX1_325 rfl k4 rfl ?_
    obtain ⟨v12, e13, hf⟩ := pm_bd hf
    refine pm_callV (as := [.int 1, .long (pm_L h v2 9)]) (st := []) C X dX1_callByTable_32 lnX1_146 myX7_has viX7_has ⟨by decide, by decide⟩ rfl rfl k7 (Nat.le_of_ble_eq_true rfl) kc1 kc2 (ctX7_has e13 ?_)
    show pm_G g 35 [(0, .ref x0)] [.int v12] h (pm_sz h - pm_sz h0) (pm_us h - pm_us h0)
    refine pm_if_eq (tgt := 42) C dX1_callByTable_35 (by decide) (fun c14 => ?_) (fun c14 => ?_)
    · have hf := pm_it hf c14
      exact pa_join K0 (pm_sub [0] rfl (bX1_callByTable_42 C X (m0.trans (pm_S3.le K0)) hf q))
    · have hf := pm_ie hf c14
      refine pm_iconst (v := 1) C dX1_callByTable_38 (by decide) ?_
      refine pm_goto (tgt := 43) C dX1_callByTable_39 (by decide) ?_
      exact pa_join K0 (pm_sub [0] rfl (bX1_callByTable_43 C X (m0.trans (pm_S3.le K0)) hf q))
set_option maxHeartbeats 4000000 in
set_option maxRecDepth 100000 in
theorem ctX1_callByTable {l : Launch} {G : pm_Gl} {h : pm_H} {a0 : Nat} {r : pm_H} {Qr : Option Value → pm_H → Prop} (hf : fX1_callByTable h a0 = some r) (q : Qr none r) : pm_Ct l G mX1_callByTable [.ref a0] h (pm_sz r - pm_sz h) (pm_us r - pm_us h) Qr := by
  refine pm_body pnX1 (Nat.le_of_ble_eq_true rfl) (fun g C X => ?_)
  have C : pm_C g cX1_callByTable RX1 := C
  show pm_G g 0 [(0, .ref a0)] [] h 0 0
  unfold fX1_callByTable at hf
  exact pa_start (pm_sub [0] rfl (bX1_callByTable_0 C X (pm_Le.rf h) hf q))
theorem dX1_callDirectly_0 : decode cX1_callDirectly 0 = .ok (.aload_n 0, 1) := by decide +kernel
theorem dX1_callDirectly_1 : decode cX1_callDirectly 1 = .ok (.getfield 40, 3) := by decide +kernel
theorem dX1_callDirectly_4 : decode cX1_callDirectly 4 = .ok (.iconst 0, 1) := by decide +kernel
theorem dX1_callDirectly_5 : decode cX1_callDirectly 5 = .ok (.aload_n 0, 1) := by decide +kernel
theorem dX1_callDirectly_6 : decode cX1_callDirectly 6 = .ok (.getfield 36, 3) := by decide +kernel
theorem dX1_callDirectly_9 : decode cX1_callDirectly 9 = .ok (.getfield 201, 3) := by decide +kernel
theorem dX1_callDirectly_12 : decode cX1_callDirectly 12 = .ok (.invokevirtual 146, 3) := by decide +kernel
theorem dX1_callDirectly_15 : decode cX1_callDirectly 15 = .ok (.ifCond .ne 10, 3) := by decide +kernel
theorem dX1_callDirectly_18 : decode cX1_callDirectly 18 = .ok (.aload_n 0, 1) := by decide +kernel
theorem dX1_callDirectly_19 : decode cX1_callDirectly 19 = .ok (.bipush 30, 2) := by decide +kernel
theorem dX1_callDirectly_21 : decode cX1_callDirectly 21 = .ok (.invokevirtual 198, 3) := by decide +kernel
theorem dX1_callDirectly_24 : decode cX1_callDirectly 24 = .ok (.return_, 1) := by decide +kernel
theorem dX1_callDirectly_25 : decode cX1_callDirectly 25 = .ok (.aload_n 0, 1) := by decide +kernel
theorem dX1_callDirectly_26 : decode cX1_callDirectly 26 = .ok (.getfield 40, 3) := by decide +kernel
theorem dX1_callDirectly_29 : decode cX1_callDirectly 29 = .ok (.aload_n 0, 1) := by decide +kernel
theorem dX1_callDirectly_30 : decode cX1_callDirectly 30 = .ok (.getfield 36, 3) := by decide +kernel
theorem dX1_callDirectly_33 : decode cX1_callDirectly 33 = .ok (.getfield 201, 3) := by decide +kernel
theorem dX1_callDirectly_36 : decode cX1_callDirectly 36 = .ok (.l2i, 1) := by decide +kernel
theorem dX1_callDirectly_37 : decode cX1_callDirectly 37 = .ok (.invokevirtual 166, 3) := by decide +kernel
theorem dX1_callDirectly_40 : decode cX1_callDirectly 40 = .ok (.astore_n 1, 1) := by decide +kernel
theorem dX1_callDirectly_41 : decode cX1_callDirectly 41 = .ok (.aload_n 0, 1) := by decide +kernel
theorem dX1_callDirectly_42 : decode cX1_callDirectly 42 = .ok (.aload_n 1, 1) := by decide +kernel
theorem dX1_callDirectly_43 : decode cX1_callDirectly 43 = .ok (.invokevirtual 387, 3) := by decide +kernel
theorem dX1_callDirectly_46 : decode cX1_callDirectly 46 = .ok (.aload_n 0, 1) := by decide +kernel
theorem dX1_callDirectly_47 : decode cX1_callDirectly 47 = .ok (.aload_n 1, 1) := by decide +kernel
theorem dX1_callDirectly_48 : decode cX1_callDirectly 48 = .ok (.invokevirtual 412, 3) := by decide +kernel
theorem dX1_callDirectly_51 : decode cX1_callDirectly 51 = .ok (.aload_n 0, 1) := by decide +kernel
theorem dX1_callDirectly_52 : decode cX1_callDirectly 52 = .ok (.bipush 16, 2) := by decide +kernel
theorem dX1_callDirectly_54 : decode cX1_callDirectly 54 = .ok (.aload_n 0, 1) := by decide +kernel
theorem dX1_callDirectly_55 : decode cX1_callDirectly 55 = .ok (.getfield 36, 3) := by decide +kernel
theorem dX1_callDirectly_58 : decode cX1_callDirectly 58 = .ok (.getfield 201, 3) := by decide +kernel
theorem dX1_callDirectly_61 : decode cX1_callDirectly 61 = .ok (.l2i, 1) := by decide +kernel
theorem dX1_callDirectly_62 : decode cX1_callDirectly 62 = .ok (.iconst 0, 1) := by decide +kernel
theorem dX1_callDirectly_63 : decode cX1_callDirectly 63 = .ok (.aload_n 1, 1) := by decide +kernel
theorem dX1_callDirectly_64 : decode cX1_callDirectly 64 = .ok (.iconst 0, 1) := by decide +kernel
theorem dX1_callDirectly_65 : decode cX1_callDirectly 65 = .ok (.invokestatic 105, 3) := by decide +kernel
theorem dX1_callDirectly_68 : decode cX1_callDirectly 68 = .ok (.invokevirtual 322, 3) := by decide +kernel
theorem dX1_callDirectly_71 : decode cX1_callDirectly 71 = .ok (.pop, 1) := by decide +kernel
theorem dX1_callDirectly_72 : decode cX1_callDirectly 72 = .ok (.return_, 1) := by decide +kernel
noncomputable def fX1_callDirectly_b40 (h : pm_H) (x0 : Nat) (s0 : Nat) : Option pm_H := if pm_kd h x0 = 1 then (fX1_takeParameters h x0 s0).bind fun v17 => if pm_kd v17 x0 = 1 then (fX1_putResults v17 x0 s0).bind fun v21 => if pm_kd v21 x0 = 1 then (pm_R v21 x0 3).bind fun v25 => if pm_kd v21 v25 = 9 then (fX12_item v21 s0 0).bind fun v28 => (fX1_emit v21 x0 16 ((pm_L v21 v25 8).toInt32) 0 v28).bind fun v30 => some v30.2 else none else none else none else none
noncomputable def fX1_callDirectly_b0 (h : pm_H) (x0 : Nat) : Option pm_H := if pm_kd h x0 = 1 then (pm_R h x0 2).bind fun v2 => (pm_R h x0 3).bind fun v4 => if pm_kd h v4 = 9 then if pm_kd h v2 = 7 then (fX7_has h v2 0 (pm_L h v4 8)).bind fun v8 => if v8 = 0 then ((fX1_fail h x0 30).bind fun v13 => some v13) else ((fX7_shapeOfFunction h v2 ((pm_L h v4 8).toInt32)).bind fun v11 => fX1_callDirectly_b40 v11.2 x0 v11.1) else none else none else none
noncomputable def fX1_callDirectly (h : pm_H) (a0 : Nat) : Option pm_H := fX1_callDirectly_b0 h a0
set_option maxHeartbeats 4000000 in
set_option maxRecDepth 100000 in
theorem moX1_callDirectly_b40 {h : pm_H} {x0 : Nat} {s0 : Nat} {r : pm_H} (hf : fX1_callDirectly_b40 h x0 s0 = some r) : pm_Le h r := by
  unfold fX1_callDirectly_b40 at hf
  have K0 := pm_S3.rf h
  obtain ⟨k16, hf⟩ := pm_if hf
  obtain ⟨v17, e18, hf⟩ := pm_bd hf
  have K19 := pm_S3.trans (kpX1_takeParameters e18) K0
  obtain ⟨k20, hf⟩ := pm_if hf
  obtain ⟨v21, e22, hf⟩ := pm_bd hf
  have K23 := pm_S3.trans (kpX1_putResults e22) K19
  obtain ⟨k24, hf⟩ := pm_if hf
  obtain ⟨v25, e26, hf⟩ := pm_bd hf
  obtain ⟨k27, hf⟩ := pm_if hf
  obtain ⟨v28, e29, hf⟩ := pm_bd hf
  obtain ⟨v30, e31, hf⟩ := pm_bd hf
  have K32 := pm_S3.trans (kpX1_emit e31) K23
  have hf := Option.some.inj hf
  subst hf
  exact pm_S3.le K32
set_option maxHeartbeats 4000000 in
set_option maxRecDepth 100000 in
theorem moX1_callDirectly_b0 {h : pm_H} {x0 : Nat} {r : pm_H} (hf : fX1_callDirectly_b0 h x0 = some r) : pm_Le h r := by
  unfold fX1_callDirectly_b0 at hf
  have K0 := pm_S3.rf h
  obtain ⟨k1, hf⟩ := pm_if hf
  obtain ⟨v2, e3, hf⟩ := pm_bd hf
  obtain ⟨v4, e5, hf⟩ := pm_bd hf
  obtain ⟨k6, hf⟩ := pm_if hf
  obtain ⟨k7, hf⟩ := pm_if hf
  obtain ⟨v8, e9, hf⟩ := pm_bd hf
  by_cases c10 : v8 = 0
  · have hf := pm_it hf c10
    obtain ⟨v11, e12, hf⟩ := pm_bd hf
    have K13 := pm_S3.trans (kpX1_fail e12) K0
    have hf := Option.some.inj hf
    subst hf
    exact pm_S3.le K13
  · have hf := pm_ie hf c10
    obtain ⟨v14, e15, hf⟩ := pm_bd hf
    exact ((pm_S3.le K0).trans (moX7_shapeOfFunction e15)).trans (moX1_callDirectly_b40 hf)
set_option maxHeartbeats 4000000 in
set_option maxRecDepth 100000 in
theorem moX1_callDirectly {h : pm_H} {a0 : Nat} {r : pm_H} (hf : fX1_callDirectly h a0 = some r) : pm_Le h r := by
  unfold fX1_callDirectly at hf
  have K0 := pm_S3.rf h
  exact (pm_S3.le K0).trans (moX1_callDirectly_b0 hf)
set_option maxHeartbeats 4000000 in
set_option maxRecDepth 100000 in
theorem bX1_callDirectly_40 {g : pm_Gm} {l : Launch} {G : pm_Gl} {Qr : Option Value → pm_H → Prop} (C : pm_C g cX1_callDirectly RX1) {h0 h : pm_H} {x0 : Nat} {s0 : Nat} {r : pm_H} (X : pm_X g l G mX1_callDirectly (pm_sz r - pm_sz h0) (pm_us r - pm_us h0) Qr) (m0 : pm_Le h0 h) (hf : fX1_callDirectly_b40 h x0 s0 = some r) (q : Qr none r) : pm_G g 40 [(0, .ref x0)] [.ref s0] h (pm_sz h - pm_sz h0) (pm_us h - pm_us h0) := by
  have le0 := moX1_callDirectly_b40 hf
  have kc1 := Nat.sub_le_sub_right le0.1 (pm_sz h0)
  have kc2 := Nat.sub_le_sub_right le0.2 (pm_us h0)
  have K0 := pm_S3.rf h
  unfold fX1_callDirectly_b40 at hf
  refine pm_astore_n (lv' := [(1, .ref s0), (0, .ref x0)]) C dX1_callDirectly_40 rfl (pm_nl X (by decide)) rfl ?_
  refine pm_aload_n C dX1_callDirectly_41 rfl rfl ?_
  refine pm_aload_n C dX1_callDirectly_42 rfl rfl ?_
  obtain ⟨k16, hf⟩ := pm_if hf
  obtain ⟨v17, e18, hf⟩ := pm_bd hf
  refine pm_callV (as := [.ref s0]) (st := []) C X dX1_callDirectly_43 lnX1_387 myX1_takeParameters viX1_takeParameters ⟨by decide, by decide⟩ rfl rfl k16 (Nat.le_of_ble_eq_true rfl) kc1 kc2 (ctX1_takeParameters e18 ?_)
  have K19 := pm_S3.trans (kpX1_takeParameters e18) K0
  show pm_G g 46 [(1, .ref s0), (0, .ref x0)] [] v17 (pm_sz h - pm_sz h0) (pm_us h - pm_us h0)
  refine pm_aload_n C dX1_callDirectly_46 rfl rfl ?_
  refine pm_aload_n C dX1_callDirectly_47 rfl rfl ?_
  obtain ⟨k20, hf⟩ := pm_if hf
  obtain ⟨v21, e22, hf⟩ := pm_bd hf
  refine pm_callV (as := [.ref s0]) (st := []) C X dX1_callDirectly_48 lnX1_412 myX1_putResults viX1_putResults ⟨by decide, by decide⟩ rfl rfl k20 (Nat.le_of_ble_eq_true rfl) kc1 kc2 (ctX1_putResults e22 ?_)
  have K23 := pm_S3.trans (kpX1_putResults e22) K19
  show pm_G g 51 [(1, .ref s0), (0, .ref x0)] [] v21 (pm_sz h - pm_sz h0) (pm_us h - pm_us h0)
  refine pm_aload_n C dX1_callDirectly_51 rfl rfl ?_
  refine pm_bipush (v := 16) C dX1_callDirectly_52 (by decide) ?_
  refine pm_aload_n C dX1_callDirectly_54 rfl rfl ?_
  obtain ⟨k24, hf⟩ := pm_if hf
  obtain ⟨v25, e26, hf⟩ := pm_bd hf
  refine pm_getR C dX1_callDirectly_55 flX1_36 rfl k24 e26 ?_
  obtain ⟨k27, hf⟩ := pm_if hf
  refine pm_getL C dX1_callDirectly_58 flX1_201 rfl k27 rfl ?_
  refine pm_l2i C dX1_callDirectly_61 ?_
  refine pm_iconst (v := 0) C dX1_callDirectly_62 (by decide) ?_
  refine pm_aload_n C dX1_callDirectly_63 rfl rfl ?_
  refine pm_iconst (v := 0) C dX1_callDirectly_64 (by decide) ?_
  obtain ⟨v28, e29, hf⟩ := pm_bd hf
  refine pm_callS (as := [.ref s0, .int 0]) (st := [.int 0, .int ((pm_L v21 v25 8).toInt32), .int 16, .ref x0]) C X dX1_callDirectly_65 lnX1_105 myX12_item stX12_item ⟨by decide, by decide⟩ rfl rfl (Nat.le_of_ble_eq_true rfl) kc1 kc2 (ctX12_item e29 ?_)
  show pm_G g 68 [(1, .ref s0), (0, .ref x0)] [.int v28, .int 0, .int ((pm_L v21 v25 8).toInt32), .int 16, .ref x0] v21 (pm_sz h - pm_sz h0) (pm_us h - pm_us h0)
  obtain ⟨v30, e31, hf⟩ := pm_bd hf
  refine pm_callV (as := [.int 16, .int ((pm_L v21 v25 8).toInt32), .int 0, .int v28]) (st := []) C X dX1_callDirectly_68 lnX1_322 myX1_emit viX1_emit ⟨by decide, by decide⟩ rfl rfl k24 (Nat.le_of_ble_eq_true rfl) kc1 kc2 (ctX1_emit e31 ?_)
  have K32 := pm_S3.trans (kpX1_emit e31) K23
  show pm_G g 71 [(1, .ref s0), (0, .ref x0)] [.int v30.1] v30.2 (pm_sz h - pm_sz h0) (pm_us h - pm_us h0)
  refine pm_pop C dX1_callDirectly_71 rfl ?_
  have hf := Option.some.inj hf
  subst hf
  exact pm_vret C X dX1_callDirectly_72 rfl kc1 kc2 q
set_option maxHeartbeats 4000000 in
set_option maxRecDepth 100000 in
theorem bX1_callDirectly_0 {g : pm_Gm} {l : Launch} {G : pm_Gl} {Qr : Option Value → pm_H → Prop} (C : pm_C g cX1_callDirectly RX1) {h0 h : pm_H} {x0 : Nat} {r : pm_H} (X : pm_X g l G mX1_callDirectly (pm_sz r - pm_sz h0) (pm_us r - pm_us h0) Qr) (m0 : pm_Le h0 h) (hf : fX1_callDirectly_b0 h x0 = some r) (q : Qr none r) : pm_G g 0 [(0, .ref x0)] [] h (pm_sz h - pm_sz h0) (pm_us h - pm_us h0) := by
  have le0 := moX1_callDirectly_b0 hf
  have kc1 := Nat.sub_le_sub_right le0.1 (pm_sz h0)
  have kc2 := Nat.sub_le_sub_right le0.2 (pm_us h0)
  have K0 := pm_S3.rf h
  unfold fX1_callDirectly_b0 at hf
  refine pm_aload_n C dX1_callDirectly_0 rfl rfl ?_
  obtain ⟨k1, hf⟩ := pm_if hf
  obtain ⟨v2, e3, hf⟩ := pm_bd hf
  refine pm_getR C dX1_callDirectly_1 flX1_40 rfl k1 e3 ?_
  refine pm_iconst (v := 0) C dX1_callDirectly_4 (by decide) ?_
  refine pm_aload_n C dX1_callDirectly_5 rfl rfl ?_
  obtain ⟨v4, e5, hf⟩ := pm_bd hf
  refine pm_getR C dX1_callDirectly_6 flX1_36 rfl k1 e5 ?_
  obtain ⟨k6, hf⟩ := pm_if hf
  refine pm_getL C dX1_callDirectly_9 flX1_201 rfl k6 rfl ?_
  obtain ⟨k7, hf⟩ := pm_if hf
  obtain ⟨v8, e9, hf⟩ := pm_bd hf
  refine pm_callV (as := [.int 0, .long (pm_L h v4 8)]) (st := []) C X dX1_callDirectly_12 lnX1_146 myX7_has viX7_has ⟨by decide, by decide⟩ rfl rfl k7 (Nat.le_of_ble_eq_true rfl) kc1 kc2 (ctX7_has e9 ?_)
  show pm_G g 15 [(0, .ref x0)] [.int v8] h (pm_sz h - pm_sz h0) (pm_us h - pm_us h0)
  refine pm_if_ne (tgt := 25) C dX1_callDirectly_15 (by decide) (fun c10 => ?_) (fun c10 => ?_)
  · have hf := pm_ie hf c10
    refine pm_aload_n C dX1_callDirectly_25 rfl rfl ?_
    refine pm_getR C dX1_callDirectly_26 flX1_40 rfl k1 e3 ?_
    refine pm_aload_n C dX1_callDirectly_29 rfl rfl ?_
    refine pm_getR C dX1_callDirectly_30 flX1_36 rfl k1 e5 ?_
    refine pm_getL C dX1_callDirectly_33 flX1_201 rfl k6 rfl ?_
    refine pm_l2i C dX1_callDirectly_36 ?_
    obtain ⟨v11, e12, hf⟩ := pm_bd hf
    refine pm_callV (as := [.int ((pm_L h v4 8).toInt32)]) (st := []) C X dX1_callDirectly_37 lnX1_166 myX7_shapeOfFunction viX7_shapeOfFunction ⟨by decide, by decide⟩ rfl rfl k7 (Nat.le_of_ble_eq_true rfl) (pa_le1 K0 m0 (moX7_shapeOfFunction e12) (moX1_callDirectly_b40 hf)) (pa_le2 K0 m0 (moX7_shapeOfFunction e12) (moX1_callDirectly_b40 hf)) (ctX7_shapeOfFunction e12 ?_)
    show pm_G g 40 [(0, .ref x0)] [.ref v11.1] v11.2 (pm_sz h - pm_sz h0 + (pm_sz v11.2 - pm_sz h)) (pm_us h - pm_us h0 + (pm_us v11.2 - pm_us h))
    refine pa_fin K0 m0 (moX7_shapeOfFunction e12) ?_
    exact pm_sub [0] rfl (bX1_callDirectly_40 C X ((m0.trans (pm_S3.le K0)).trans (moX7_shapeOfFunction e12)) hf q)
  · have hf := pm_it hf c10
    refine pm_aload_n C dX1_callDirectly_18 rfl rfl ?_
    refine pm_bipush (v := 30) C dX1_callDirectly_19 (by decide) ?_
    obtain ⟨v13, e14, hf⟩ := pm_bd hf
    refine pm_callV (as := [.int 30]) (st := []) C X dX1_callDirectly_21 lnX1_198 myX1_fail viX1_fail ⟨by decide, by decide⟩ rfl rfl k1 (Nat.le_of_ble_eq_true rfl) kc1 kc2 (ctX1_fail e14 ?_)
    have K15 := pm_S3.trans (kpX1_fail e14) K0
    show pm_G g 24 [(0, .ref x0)] [] v13 (pm_sz h - pm_sz h0) (pm_us h - pm_us h0)
    have hf := Option.some.inj hf
    subst hf
    exact pm_vret C X dX1_callDirectly_24 rfl kc1 kc2 q
set_option maxHeartbeats 4000000 in
set_option maxRecDepth 100000 in
theorem ctX1_callDirectly {l : Launch} {G : pm_Gl} {h : pm_H} {a0 : Nat} {r : pm_H} {Qr : Option Value → pm_H → Prop} (hf : fX1_callDirectly h a0 = some r) (q : Qr none r) : pm_Ct l G mX1_callDirectly [.ref a0] h (pm_sz r - pm_sz h) (pm_us r - pm_us h) Qr := by
  refine pm_body pnX1 (Nat.le_of_ble_eq_true rfl) (fun g C X => ?_)
  have C : pm_C g cX1_callDirectly RX1 := C
  show pm_G g 0 [(0, .ref a0)] [] h 0 0
  unfold fX1_callDirectly at hf
  exact pa_start (pm_sub [0] rfl (bX1_callDirectly_0 C X (pm_Le.rf h) hf q))
