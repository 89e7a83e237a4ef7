theorem dX4_init_0 : decode cX4_init 0 = .ok (.aload_n 0, 1) := by decide +kernel
theorem dX4_init_1 : decode cX4_init 1 = .ok (.invokespecial 1, 3) := by decide +kernel
theorem dX4_init_4 : decode cX4_init 4 = .ok (.aload_n 0, 1) := by decide +kernel
theorem dX4_init_5 : decode cX4_init 5 = .ok (.aload_n 1, 1) := by decide +kernel
theorem dX4_init_6 : decode cX4_init 6 = .ok (.putfield 7, 3) := by decide +kernel
theorem dX4_init_9 : decode cX4_init 9 = .ok (.aload_n 0, 1) := by decide +kernel
theorem dX4_init_10 : decode cX4_init 10 = .ok (.aload_n 1, 1) := by decide +kernel
theorem dX4_init_11 : decode cX4_init 11 = .ok (.iconst 0, 1) := by decide +kernel
theorem dX4_init_12 : decode cX4_init 12 = .ok (.invokevirtual 13, 3) := by decide +kernel
theorem dX4_init_15 : decode cX4_init 15 = .ok (.newarray .int, 2) := by decide +kernel
theorem dX4_init_17 : decode cX4_init 17 = .ok (.putfield 19, 3) := by decide +kernel
theorem dX4_init_20 : decode cX4_init 20 = .ok (.aload_n 0, 1) := by decide +kernel
theorem dX4_init_21 : decode cX4_init 21 = .ok (.aload_n 1, 1) := by decide +kernel
theorem dX4_init_22 : decode cX4_init 22 = .ok (.iconst 1, 1) := by decide +kernel
theorem dX4_init_23 : decode cX4_init 23 = .ok (.invokevirtual 13, 3) := by decide +kernel
theorem dX4_init_26 : decode cX4_init 26 = .ok (.newarray .int, 2) := by decide +kernel
theorem dX4_init_28 : decode cX4_init 28 = .ok (.putfield 23, 3) := by decide +kernel
theorem dX4_init_31 : decode cX4_init 31 = .ok (.aload_n 0, 1) := by decide +kernel
theorem dX4_init_32 : decode cX4_init 32 = .ok (.aload_n 1, 1) := by decide +kernel
theorem dX4_init_33 : decode cX4_init 33 = .ok (.iconst 2, 1) := by decide +kernel
theorem dX4_init_34 : decode cX4_init 34 = .ok (.invokevirtual 13, 3) := by decide +kernel
theorem dX4_init_37 : decode cX4_init 37 = .ok (.newarray .int, 2) := by decide +kernel
theorem dX4_init_39 : decode cX4_init 39 = .ok (.putfield 26, 3) := by decide +kernel
theorem dX4_init_42 : decode cX4_init 42 = .ok (.aload_n 0, 1) := by decide +kernel
theorem dX4_init_43 : decode cX4_init 43 = .ok (.aload_n 1, 1) := by decide +kernel
theorem dX4_init_44 : decode cX4_init 44 = .ok (.iconst 3, 1) := by decide +kernel
theorem dX4_init_45 : decode cX4_init 45 = .ok (.invokevirtual 13, 3) := by decide +kernel
theorem dX4_init_48 : decode cX4_init 48 = .ok (.newarray .int, 2) := by decide +kernel
theorem dX4_init_50 : decode cX4_init 50 = .ok (.putfield 29, 3) := by decide +kernel
theorem dX4_init_53 : decode cX4_init 53 = .ok (.aload_n 0, 1) := by decide +kernel
theorem dX4_init_54 : decode cX4_init 54 = .ok (.aload_n 1, 1) := by decide +kernel
theorem dX4_init_55 : decode cX4_init 55 = .ok (.getfield 32, 3) := by decide +kernel
theorem dX4_init_58 : decode cX4_init 58 = .ok (.arraylength, 1) := by decide +kernel
theorem dX4_init_59 : decode cX4_init 59 = .ok (.bipush 7, 2) := by decide +kernel
theorem dX4_init_61 : decode cX4_init 61 = .ok (.idiv, 1) := by decide +kernel
theorem dX4_init_62 : decode cX4_init 62 = .ok (.iconst 0, 1) := by decide +kernel
theorem dX4_init_63 : decode cX4_init 63 = .ok (.multianewarray 35 2, 4) := by decide +kernel
theorem dX4_init_67 : decode cX4_init 67 = .ok (.putfield 37, 3) := by decide +kernel
theorem dX4_init_70 : decode cX4_init 70 = .ok (.aload_n 0, 1) := by decide +kernel
theorem dX4_init_71 : decode cX4_init 71 = .ok (.aload_n 0, 1) := by decide +kernel
theorem dX4_init_72 : decode cX4_init 72 = .ok (.getfield 37, 3) := by decide +kernel
theorem dX4_init_75 : decode cX4_init 75 = .ok (.arraylength, 1) := by decide +kernel
theorem dX4_init_76 : decode cX4_init 76 = .ok (.newarray .int, 2) := by decide +kernel
theorem dX4_init_78 : decode cX4_init 78 = .ok (.putfield 39, 3) := by decide +kernel
theorem dX4_init_81 : decode cX4_init 81 = .ok (.aload_n 0, 1) := by decide +kernel
theorem dX4_init_82 : decode cX4_init 82 = .ok (.aload_n 1, 1) := by decide +kernel
theorem dX4_init_83 : decode cX4_init 83 = .ok (.getfield 42, 3) := by decide +kernel
theorem dX4_init_86 : decode cX4_init 86 = .ok (.arraylength, 1) := by decide +kernel
theorem dX4_init_87 : decode cX4_init 87 = .ok (.bipush 7, 2) := by decide +kernel
theorem dX4_init_89 : decode cX4_init 89 = .ok (.idiv, 1) := by decide +kernel
theorem dX4_init_90 : decode cX4_init 90 = .ok (.newarray .int, 2) := by decide +kernel
theorem dX4_init_92 : decode cX4_init 92 = .ok (.putfield 45, 3) := by decide +kernel
theorem dX4_init_95 : decode cX4_init 95 = .ok (.return_, 1) := by decide +kernel
def fX4_init_b92 (h : pm_H) (s0 : Nat) (s1 : Nat) : Option pm_H := if pm_kd h s1 = 4 then some (pm_setR h s1 7 (some s0)) else none
def fX4_init_b78 (h : pm_H) (x0 : Nat) (x1 : Nat) (s0 : Nat) (s1 : Nat) : Option pm_H := if pm_kd h s1 = 4 then if pm_kd (pm_setR h s1 6 (some s0)) x1 = 7 then (pm_R (pm_setR h s1 6 (some s0)) x1 10).bind fun v37 => if pm_kd (pm_setR h s1 6 (some s0)) v37 = 34 then pm_let ((Int32.ofNat (pm_ln (pm_setR h s1 6 (some s0)) v37)) / 7) fun y40 => if ¬ y40 < 0 ∧ y40.toNatClampNeg * 4 ≤ 536870912 then fX4_init_b92 (pm_new (pm_setR h s1 6 (some s0)) 34 y40.toNatClampNeg) (pm_sz (pm_setR h s1 6 (some s0))) x0 else none else none else none else none
def fX4_init_b67 (h : pm_H) (x0 : Nat) (x1 : Nat) (s0 : Nat) (s1 : Nat) : Option pm_H := if pm_kd h s1 = 4 then if pm_kd (pm_setR h s1 5 (some s0)) x0 = 4 then (pm_R (pm_setR h s1 5 (some s0)) x0 5).bind fun v29 => if pm_kd (pm_setR h s1 5 (some s0)) v29 = 36 then pm_let (Int32.ofNat (pm_ln (pm_setR h s1 5 (some s0)) v29)) fun y32 => if ¬ y32 < 0 ∧ y32.toNatClampNeg * 4 ≤ 536870912 then fX4_init_b78 (pm_new (pm_setR h s1 5 (some s0)) 34 y32.toNatClampNeg) x0 x1 (pm_sz (pm_setR h s1 5 (some s0))) x0 else none else none else none else none
def fX4_init_b50 (h : pm_H) (x0 : Nat) (x1 : Nat) (s0 : Nat) (s1 : Nat) : Option pm_H := if pm_kd h s1 = 4 then if pm_kd (pm_setR h s1 4 (some s0)) x1 = 7 then (pm_R (pm_setR h s1 4 (some s0)) x1 9).bind fun v23 => if pm_kd (pm_setR h s1 4 (some s0)) v23 = 34 then if ¬ ((Int32.ofNat (pm_ln (pm_setR h s1 4 (some s0)) v23)) / 7) < 0 ∧ ((Int32.ofNat (pm_ln (pm_setR h s1 4 (some s0)) v23)) / 7).toNatClampNeg * 4 ≤ 536870912 then fX4_init_b67 (pm_ma (pm_setR h s1 4 (some s0)) 4 2 (((Int32.ofNat (pm_ln (pm_setR h s1 4 (some s0)) v23)) / 7).toNatClampNeg) (((Int32.ofNat (pm_ln (pm_setR h s1 4 (some s0)) v23)) / 7).toNatClampNeg)) x0 x1 (pm_sz (pm_setR h s1 4 (some s0))) x0 else none else none else none else none
def fX4_init_b39 (h : pm_H) (x0 : Nat) (x1 : Nat) (s0 : Nat) (s1 : Nat) : Option pm_H := if pm_kd h s1 = 4 then if pm_kd (pm_setR h s1 3 (some s0)) x1 = 7 then (fX7_count (pm_setR h s1 3 (some s0)) x1 3).bind fun v18 => if ¬ v18 < 0 ∧ v18.toNatClampNeg * 4 ≤ 536870912 then fX4_init_b50 (pm_new (pm_setR h s1 3 (some s0)) 34 v18.toNatClampNeg) x0 x1 (pm_sz (pm_setR h s1 3 (some s0))) x0 else none else none else none
def fX4_init_b28 (h : pm_H) (x0 : Nat) (x1 : Nat) (s0 : Nat) (s1 : Nat) : Option pm_H := if pm_kd h s1 = 4 then if pm_kd (pm_setR h s1 2 (some s0)) x1 = 7 then (fX7_count (pm_setR h s1 2 (some s0)) x1 2).bind fun v13 => if ¬ v13 < 0 ∧ v13.toNatClampNeg * 4 ≤ 536870912 then fX4_init_b39 (pm_new (pm_setR h s1 2 (some s0)) 34 v13.toNatClampNeg) x0 x1 (pm_sz (pm_setR h s1 2 (some s0))) x0 else none else none else none
def fX4_init_b17 (h : pm_H) (x0 : Nat) (x1 : Nat) (s0 : Nat) (s1 : Nat) : Option pm_H := if pm_kd h s1 = 4 then if pm_kd (pm_setR h s1 1 (some s0)) x1 = 7 then (fX7_count (pm_setR h s1 1 (some s0)) x1 1).bind fun v8 => if ¬ v8 < 0 ∧ v8.toNatClampNeg * 4 ≤ 536870912 then fX4_init_b28 (pm_new (pm_setR h s1 1 (some s0)) 34 v8.toNatClampNeg) x0 x1 (pm_sz (pm_setR h s1 1 (some s0))) x0 else none else none else none
def fX4_init_b0 (h : pm_H) (x0 : Nat) (x1 : Nat) : Option pm_H := if pm_kd h x0 = 4 then if pm_kd (pm_setR h x0 0 (some x1)) x1 = 7 then (fX7_count (pm_setR h x0 0 (some x1)) x1 0).bind fun v3 => if ¬ v3 < 0 ∧ v3.toNatClampNeg * 4 ≤ 536870912 then fX4_init_b17 (pm_new (pm_setR h x0 0 (some x1)) 34 v3.toNatClampNeg) x0 x1 (pm_sz (pm_setR h x0 0 (some x1))) x0 else none else none else none
def fX4_init (h : pm_H) (a0 : Nat) (p1 : Nat) : Option pm_H := fX4_init_b0 h a0 p1
set_option maxHeartbeats 4000000 in
set_option maxRecDepth 100000 in
theorem moX4_init_b92 {h : pm_H} {s0 : Nat} {s1 : Nat} {r : pm_H} (hf : fX4_init_b92 h s0 s1 = some r) : pm_Le h r := by
  unfold fX4_init_b92 at hf
  have K0 := pm_S3.rf h
  obtain ⟨k43, hf⟩ := pm_if hf
  have hf := Option.some.inj hf
  subst hf
  exact pm_S3.le (pm_S3R K0)
set_option maxHeartbeats 4000000 in
set_option maxRecDepth 100000 in
theorem moX4_init_b78 {h : pm_H} {x0 : Nat} {x1 : Nat} {s0 : Nat} {s1 : Nat} {r : pm_H} (hf : fX4_init_b78 h x0 x1 s0 s1 = some r) : pm_Le h r := by
  unfold fX4_init_b78 at hf
  have K0 := pm_S3.rf h
  obtain ⟨k35, hf⟩ := pm_if hf
  obtain ⟨k36, hf⟩ := pm_if hf
  obtain ⟨v37, e38, hf⟩ := pm_bd hf
  obtain ⟨k39, hf⟩ := pm_if hf
  obtain ⟨y40, e41, hf⟩ := pm_lt hf
  obtain ⟨u42, hf⟩ := pm_if hf
  exact ((pm_S3.le (pm_S3R K0)).trans (pm_Le_new _ _ _)).trans (moX4_init_b92 hf)
set_option maxHeartbeats 4000000 in
set_option maxRecDepth 100000 in
theorem moX4_init_b67 {h : pm_H} {x0 : Nat} {x1 : Nat} {s0 : Nat} {s1 : Nat} {r : pm_H} (hf : fX4_init_b67 h x0 x1 s0 s1 = some r) : pm_Le h r := by
  unfold fX4_init_b67 at hf
  have K0 := pm_S3.rf h
  obtain ⟨k27, hf⟩ := pm_if hf
  obtain ⟨k28, hf⟩ := pm_if hf
  obtain ⟨v29, e30, hf⟩ := pm_bd hf
  obtain ⟨k31, hf⟩ := pm_if hf
  obtain ⟨y32, e33, hf⟩ := pm_lt hf
  obtain ⟨u34, hf⟩ := pm_if hf
  exact ((pm_S3.le (pm_S3R K0)).trans (pm_Le_new _ _ _)).trans (moX4_init_b78 hf)
set_option maxHeartbeats 4000000 in
set_option maxRecDepth 100000 in
theorem moX4_init_b50 {h : pm_H} {x0 : Nat} {x1 : Nat} {s0 : Nat} {s1 : Nat} {r : pm_H} (hf : fX4_init_b50 h x0 x1 s0 s1 = some r) : pm_Le h r := by
  unfold fX4_init_b50 at hf
  have K0 := pm_S3.rf h
  obtain ⟨k21, hf⟩ := pm_if hf
  obtain ⟨k22, hf⟩ := pm_if hf
  obtain ⟨v23, e24, hf⟩ := pm_bd hf
  obtain ⟨k25, hf⟩ := pm_if hf
  obtain ⟨u26, hf⟩ := pm_if hf
  exact ((pm_S3.le (pm_S3R K0)).trans (pm_Le_ma _ _ _ _ _)).trans (moX4_init_b67 hf)
set_option maxHeartbeats 4000000 in
set_option maxRecDepth 100000 in
theorem moX4_init_b39 {h : pm_H} {x0 : Nat} {x1 : Nat} {s0 : Nat} {s1 : Nat} {r : pm_H} (hf : fX4_init_b39 h x0 x1 s0 s1 = some r) : pm_Le h r := by
  unfold fX4_init_b39 at hf
  have K0 := pm_S3.rf h
  obtain ⟨k16, hf⟩ := pm_if hf
  obtain ⟨k17, hf⟩ := pm_if hf
  obtain ⟨v18, e19, hf⟩ := pm_bd hf
  obtain ⟨u20, hf⟩ := pm_if hf
  exact ((pm_S3.le (pm_S3R K0)).trans (pm_Le_new _ _ _)).trans (moX4_init_b50 hf)
set_option maxHeartbeats 4000000 in
set_option maxRecDepth 100000 in
theorem moX4_init_b28 {h : pm_H} {x0 : Nat} {x1 : Nat} {s0 : Nat} {s1 : Nat} {r : pm_H} (hf : fX4_init_b28 h x0 x1 s0 s1 = some r) : pm_Le h r := by
  unfold fX4_init_b28 at hf
  have K0 := pm_S3.rf h
  obtain ⟨k11, hf⟩ := pm_if hf
  obtain ⟨k12, hf⟩ := pm_if hf
  obtain ⟨v13, e14, hf⟩ := pm_bd hf
  obtain ⟨u15, hf⟩ := pm_if hf
  exact ((pm_S3.le (pm_S3R K0)).trans (pm_Le_new _ _ _)).trans (moX4_init_b39 hf)
set_option maxHeartbeats 4000000 in
set_option maxRecDepth 100000 in
theorem moX4_init_b17 {h : pm_H} {x0 : Nat} {x1 : Nat} {s0 : Nat} {s1 : Nat} {r : pm_H} (hf : fX4_init_b17 h x0 x1 s0 s1 = some r) : pm_Le h r := by
  unfold fX4_init_b17 at hf
  have K0 := pm_S3.rf h
  obtain ⟨k6, hf⟩ := pm_if hf
  obtain ⟨k7, hf⟩ := pm_if hf
  obtain ⟨v8, e9, hf⟩ := pm_bd hf
  obtain ⟨u10, hf⟩ := pm_if hf
  exact ((pm_S3.le (pm_S3R K0)).trans (pm_Le_new _ _ _)).trans (moX4_init_b28 hf)
set_option maxHeartbeats 4000000 in
set_option maxRecDepth 100000 in
theorem moX4_init_b0 {h : pm_H} {x0 : Nat} {x1 : Nat} {r : pm_H} (hf : fX4_init_b0 h x0 x1 = some r) : pm_Le h r := by
  unfold fX4_init_b0 at hf
  have K0 := pm_S3.rf h
  obtain ⟨k1, hf⟩ := pm_if hf
  obtain ⟨k2, hf⟩ := pm_if hf
  obtain ⟨v3, e4, hf⟩ := pm_bd hf
  obtain ⟨u5, hf⟩ := pm_if hf
  exact ((pm_S3.le (pm_S3R K0)).trans (pm_Le_new _ _ _)).trans (moX4_init_b17 hf)
set_option maxHeartbeats 4000000 in
set_option maxRecDepth 100000 in
theorem moX4_init {h : pm_H} {a0 : Nat} {p1 : Nat} {r : pm_H} (hf : fX4_init h a0 p1 = some r) : pm_Le h r := by
  unfold fX4_init at hf
  have K0 := pm_S3.rf h
  exact (pm_S3.le K0).trans (moX4_init_b0 hf)
set_option maxHeartbeats 4000000 in
set_option maxRecDepth 100000 in
theorem bX4_init_92 {g : pm_Gm} {l : Launch} {G : pm_Gl} {Qr : Option Value → pm_H → Prop} (C : pm_C g cX4_init RX4) {h0 h : pm_H} {s0 : Nat} {s1 : Nat} {r : pm_H} (X : pm_X g l G mX4_init (pm_sz r - pm_sz h0) (pm_us r - pm_us h0) Qr) (m0 : pm_Le h0 h) (hf : fX4_init_b92 h s0 s1 = some r) (q : Qr none r) (nm : g.2.2.2.2.2.2.2.2.1.name = "<init>") : pm_G g 92 [] [.ref s0, .ref s1] h (pm_sz h - pm_sz h0) (pm_us h - pm_us h0) := by
  have le0 := moX4_init_b92 hf
  have kc1 := Nat.sub_le_sub_right le0.1 (pm_sz h0)
  have kc2 := Nat.sub_le_sub_right le0.2 (pm_us h0)
  have K0 := pm_S3.rf h
  unfold fX4_init_b92 at hf
  obtain ⟨k43, hf⟩ := pm_if hf
  refine pm_putRF C dX4_init_92 flX4_45 rfl nm rfl fwX4_45 rfl k43 ?_
  have hf := Option.some.inj hf
  subst hf
  exact pm_vret C X dX4_init_95 rfl kc1 kc2 q
set_option maxHeartbeats 4000000 in
set_option maxRecDepth 100000 in
theorem bX4_init_78 {g : pm_Gm} {l : Launch} {G : pm_Gl} {Qr : Option Value → pm_H → Prop} (C : pm_C g cX4_init RX4) {h0 h : pm_H} {x0 : Nat} {x1 : Nat} {s0 : Nat} {s1 : Nat} {r : pm_H} (X : pm_X g l G mX4_init (pm_sz r - pm_sz h0) (pm_us r - pm_us h0) Qr) (m0 : pm_Le h0 h) (hf : fX4_init_b78 h x0 x1 s0 s1 = some r) (q : Qr none r) (nm : g.2.2.2.2.2.2.2.2.1.name = "<init>") : pm_G g 78 [(0, .ref x0), (1, .ref x1)] [.ref s0, .ref s1] h (pm_sz h - pm_sz h0) (pm_us h - pm_us h0) := by
  have le0 := moX4_init_b78 hf
  have kc1 := Nat.sub_le_sub_right le0.1 (pm_sz h0)
  have kc2 := Nat.sub_le_sub_right le0.2 (pm_us h0)
  have K0 := pm_S3.rf h
  unfold fX4_init_b78 at hf
  obtain ⟨k35, hf⟩ := pm_if hf
  refine pm_putRF C dX4_init_78 flX4_39 rfl nm rfl fwX4_39 rfl k35 ?_
  refine pm_aload_n C dX4_init_81 rfl rfl ?_
  refine pm_aload_n C dX4_init_82 rfl rfl ?_
  obtain ⟨k36, hf⟩ := pm_if hf
  obtain ⟨v37, e38, hf⟩ := pm_bd hf
  refine pm_getR C dX4_init_83 flX4_42 rfl k36 e38 ?_
  obtain ⟨k39, hf⟩ := pm_if hf
  refine pm_alen (t := 2) C dX4_init_86 (by decide) k39 rfl ?_
  refine pm_bipush (v := 7) C dX4_init_87 (by decide) ?_
  refine pm_idiv C dX4_init_89 (by decide) ?_
  obtain ⟨y40, e41, hf⟩ := pm_lt hf
  refine pm_topI e41 ?_
  obtain ⟨u42, hf⟩ := pm_if hf
  refine pa_newa (hb := h) (h0 := h0) (t := 2) (N := y40.toNatClampNeg) C X (pm_S3R K0) m0 dX4_init_90 (by decide) rfl al2 u42.1 rfl u42.2 (moX4_init_b92 hf) ?_
  exact pm_sub [] rfl (bX4_init_92 C X ((m0.trans (pm_S3.le (pm_S3R K0))).trans (pm_Le_new _ _ _)) hf q nm)
set_option maxHeartbeats 4000000 in
set_option maxRecDepth 100000 in
theorem bX4_init_67 {g : pm_Gm} {l : Launch} {G : pm_Gl} {Qr : Option Value → pm_H → Prop} (C : pm_C g cX4_init RX4) {h0 h : pm_H} {x0 : Nat} {x1 : Nat} {s0 : Nat} {s1 : Nat} {r : pm_H} (X : pm_X g l G mX4_init (pm_sz r - pm_sz h0) (pm_us r - pm_us h0) Qr) (m0 : pm_Le h0 h) (hf : fX4_init_b67 h x0 x1 s0 s1 = some r) (q : Qr none r) (nm : g.2.2.2.2.2.2.2.2.1.name = "<init>") : pm_G g 67 [(0, .ref x0), (1, .ref x1)] [.ref s0, .ref s1] h (pm_sz h - pm_sz h0) (pm_us h - pm_us h0) := by
  have le0 := moX4_init_b67 hf
  have kc1 := Nat.sub_le_sub_right le0.1 (pm_sz h0)
  have kc2 := Nat.sub_le_sub_right le0.2 (pm_us h0)
  have K0 := pm_S3.rf h
  unfold fX4_init_b67 at hf
  obtain ⟨k27, hf⟩ := pm_if hf
  refine pm_putRF C dX4_init_67 flX4_37 rfl nm rfl fwX4_37 rfl k27 ?_
  refine pm_aload_n C dX4_init_70 rfl rfl ?_
  refine pm_aload_n C dX4_init_71 rfl rfl ?_
  obtain ⟨k28, hf⟩ := pm_if hf
  obtain ⟨v29, e30, hf⟩ := pm_bd hf
  refine pm_getR C dX4_init_72 flX4_37 rfl k28 e30 ?_
  obtain ⟨k31, hf⟩ := pm_if hf
  refine pm_alen (t := 4) C dX4_init_75 (by decide) k31 rfl ?_
  obtain ⟨y32, e33, hf⟩ := pm_lt hf
  refine pm_topI e33 ?_
  obtain ⟨u34, hf⟩ := pm_if hf
  refine pa_newa (hb := h) (h0 := h0) (t := 2) (N := y32.toNatClampNeg) C X (pm_S3R K0) m0 dX4_init_76 (by decide) rfl al2 u34.1 rfl u34.2 (moX4_init_b78 hf) ?_
  exact pm_sub [0, 1] rfl (bX4_init_78 C X ((m0.trans (pm_S3.le (pm_S3R K0))).trans (pm_Le_new _ _ _)) hf q nm)
set_option maxHeartbeats 4000000 in
set_option maxRecDepth 100000 in
theorem bX4_init_50 {g : pm_Gm} {l : Launch} {G : pm_Gl} {Qr : Option Value → pm_H → Prop} (C : pm_C g cX4_init RX4) {h0 h : pm_H} {x0 : Nat} {x1 : Nat} {s0 : Nat} {s1 : Nat} {r : pm_H} (X : pm_X g l G mX4_init (pm_sz r - pm_sz h0) (pm_us r - pm_us h0) Qr) (m0 : pm_Le h0 h) (hf : fX4_init_b50 h x0 x1 s0 s1 = some r) (q : Qr none r) (nm : g.2.2.2.2.2.2.2.2.1.name = "<init>") : pm_G g 50 [(0, .ref x0), (1, .ref x1)] [.ref s0, .ref s1] h (pm_sz h - pm_sz h0) (pm_us h - pm_us h0) := by
  have le0 := moX4_init_b50 hf
  have kc1 := Nat.sub_le_sub_right le0.1 (pm_sz h0)
  have kc2 := Nat.sub_le_sub_right le0.2 (pm_us h0)
  have K0 := pm_S3.rf h
  unfold fX4_init_b50 at hf
  obtain ⟨k21, hf⟩ := pm_if hf
  refine pm_putRF C dX4_init_50 flX4_29 rfl nm rfl fwX4_29 rfl k21 ?_
  refine pm_aload_n C dX4_init_53 rfl rfl ?_
  refine pm_aload_n C dX4_init_54 rfl rfl ?_
  obtain ⟨k22, hf⟩ := pm_if hf
  obtain ⟨v23, e24, hf⟩ := pm_bd hf
  refine pm_getR C dX4_init_55 flX4_32 rfl k22 e24 ?_
  obtain ⟨k25, hf⟩ := pm_if hf
  refine pm_alen (t := 2) C dX4_init_58 (by decide) k25 rfl ?_
  refine pm_bipush (v := 7) C dX4_init_59 (by decide) ?_
  refine pm_idiv C dX4_init_61 (by decide) ?_
  refine pm_iconst (v := 0) C dX4_init_62 (by decide) ?_
  obtain ⟨u26, hf⟩ := pm_if hf
  refine pa_mna (hb := h) (h0 := h0) (t := 4) (u := 2) (N := (((Int32.ofNat (pm_ln (pm_setR h s1 4 (some s0)) v23)) / 7).toNatClampNeg)) C X (pm_S3R K0) m0 dX4_init_63 (Or.inl ⟨rfl, rfl⟩) cmX4_35 al2 u26.1 rfl u26.2 (moX4_init_b67 hf) ?_
  exact pm_sub [0, 1] rfl (bX4_init_67 C X ((m0.trans (pm_S3.le (pm_S3R K0))).trans (pm_Le_ma _ _ _ _ _)) hf q nm)
set_option maxHeartbeats 4000000 in
set_option maxRecDepth 100000 in
theorem bX4_init_39 {g : pm_Gm} {l : Launch} {G : pm_Gl} {Qr : Option Value → pm_H → Prop} (C : pm_C g cX4_init RX4) {h0 h : pm_H} {x0 : Nat} {x1 : Nat} {s0 : Nat} {s1 : Nat} {r : pm_H} (X : pm_X g l G mX4_init (pm_sz r - pm_sz h0) (pm_us r - pm_us h0) Qr) (m0 : pm_Le h0 h) (hf : fX4_init_b39 h x0 x1 s0 s1 = some r) (q : Qr none r) (nm : g.2.2.2.2.2.2.2.2.1.name = "<init>") : pm_G g 39 [(0, .ref x0), (1, .ref x1)] [.ref s0, .ref s1] h (pm_sz h - pm_sz h0) (pm_us h - pm_us h0) := by
  have le0 := moX4_init_b39 hf
  have kc1 := Nat.sub_le_sub_right le0.1 (pm_sz h0)
  have kc2 := Nat.sub_le_sub_right le0.2 (pm_us h0)
  have K0 := pm_S3.rf h
  unfold fX4_init_b39 at hf
  obtain ⟨k16, hf⟩ := pm_if hf
  refine pm_putRF C dX4_init_39 flX4_26 rfl nm rfl fwX4_26 rfl k16 ?_
  refine pm_aload_n C dX4_init_42 rfl rfl ?_
  refine pm_aload_n C dX4_init_43 rfl rfl ?_
  refine pm_iconst (v := 3) C dX4_init_44 (by decide) ?_
  obtain ⟨k17, hf⟩ := pm_if hf
  obtain ⟨v18, e19, hf⟩ := pm_bd hf
  refine pm_callV (as := [.int 3]) (st := [.ref x0]) C X dX4_init_45 lnX4_13 myX7_count viX7_count ⟨by decide, by decide⟩ rfl rfl k17 (Nat.le_of_ble_eq_true rfl) kc1 kc2 (ctX7_count e19 ?_)
  show pm_G g 48 [(0, .ref x0), (1, .ref x1)] [.int v18, .ref x0] (pm_setR h s1 3 (some s0)) (pm_sz h - pm_sz h0) (pm_us h - pm_us h0)
  obtain ⟨u20, hf⟩ := pm_if hf
  refine pa_newa (hb := h) (h0 := h0) (t := 2) (N := v18.toNatClampNeg) C X (pm_S3R K0) m0 dX4_init_48 (by decide) rfl al2 u20.1 rfl u20.2 (moX4_init_b50 hf) ?_
  exact pm_sub [0, 1] rfl (bX4_init_50 C X ((m0.trans (pm_S3.le (pm_S3R K0))).trans (pm_Le_new _ _ _)) hf q nm)
set_option maxHeartbeats 4000000 in
set_option maxRecDepth 100000 in
theorem bX4_init_28 {g : pm_Gm} {l : Launch} {G : pm_Gl} {Qr : Option Value → pm_H → Prop} (C : pm_C g cX4_init RX4) {h0 h : pm_H} {x0 : Nat} {x1 : Nat} {s0 : Nat} {s1 : Nat} {r : pm_H} (X : pm_X g l G mX4_init (pm_sz r - pm_sz h0) (pm_us r - pm_us h0) Qr) (m0 : pm_Le h0 h) (hf : fX4_init_b28 h x0 x1 s0 s1 = some r) (q : Qr none r) (nm : g.2.2.2.2.2.2.2.2.1.name = "<init>") : pm_G g 28 [(0, .ref x0), (1, .ref x1)] [.ref s0, .ref s1] h (pm_sz h - pm_sz h0) (pm_us h - pm_us h0) := by
  have le0 := moX4_init_b28 hf
  have kc1 := Nat.sub_le_sub_right le0.1 (pm_sz h0)
  have kc2 := Nat.sub_le_sub_right le0.2 (pm_us h0)
  have K0 := pm_S3.rf h
  unfold fX4_init_b28 at hf
  obtain ⟨k11, hf⟩ := pm_if hf
  refine pm_putRF C dX4_init_28 flX4_23 rfl nm rfl fwX4_23 rfl k11 ?_
  refine pm_aload_n C dX4_init_31 rfl rfl ?_
  refine pm_aload_n C dX4_init_32 rfl rfl ?_
  refine pm_iconst (v := 2) C dX4_init_33 (by decide) ?_
  obtain ⟨k12, hf⟩ := pm_if hf
  obtain ⟨v13, e14, hf⟩ := pm_bd hf
  refine pm_callV (as := [.int 2]) (st := [.ref x0]) C X dX4_init_34 lnX4_13 myX7_count viX7_count ⟨by decide, by decide⟩ rfl rfl k12 (Nat.le_of_ble_eq_true rfl) kc1 kc2 (ctX7_count e14 ?_)
  show pm_G g 37 [(0, .ref x0), (1, .ref x1)] [.int v13, .ref x0] (pm_setR h s1 2 (some s0)) (pm_sz h - pm_sz h0) (pm_us h - pm_us h0)
  obtain ⟨u15, hf⟩ := pm_if hf
  refine pa_newa (hb := h) (h0 := h0) (t := 2) (N := v13.toNatClampNeg) C X (pm_S3R K0) m0 dX4_init_37 (by decide) rfl al2 u15.1 rfl u15.2 (moX4_init_b39 hf) ?_
  exact pm_sub [0, 1] rfl (bX4_init_39 C X ((m0.trans (pm_S3.le (pm_S3R K0))).trans (pm_Le_new _ _ _)) hf q nm)
set_option maxHeartbeats 4000000 in
set_option maxRecDepth 100000 in
theorem bX4_init_17 {g : pm_Gm} {l : Launch} {G : pm_Gl} {Qr : Option Value → pm_H → Prop} (C : pm_C g cX4_init RX4) {h0 h : pm_H} {x0 : Nat} {x1 : Nat} {s0 : Nat} {s1 : Nat} {r : pm_H} (X : pm_X g l G mX4_init (pm_sz r - pm_sz h0) (pm_us r - pm_us h0) Qr) (m0 : pm_Le h0 h) (hf : fX4_init_b17 h x0 x1 s0 s1 = some r) (q : Qr none r) (nm : g.2.2.2.2.2.2.2.2.1.name = "<init>") : pm_G g 17 [(0, .ref x0), (1, .ref x1)] [.ref s0, .ref s1] h (pm_sz h - pm_sz h0) (pm_us h - pm_us h0) := by
  have le0 := moX4_init_b17 hf
  have kc1 := Nat.sub_le_sub_right le0.1 (pm_sz h0)
  have kc2 := Nat.sub_le_sub_right le0.2 (pm_us h0)
  have K0 := pm_S3.rf h
  unfold fX4_init_b17 at hf
  obtain ⟨k6, hf⟩ := pm_if hf
  refine pm_putRF C dX4_init_17 flX4_19 rfl nm rfl fwX4_19 rfl k6 ?_
  refine pm_aload_n C dX4_init_20 rfl rfl ?_
  refine pm_aload_n C dX4_init_21 rfl rfl ?_
  refine pm_iconst (v := 1) C dX4_init_22 (by decide) ?_
  obtain ⟨k7, hf⟩ := pm_if hf
  obtain ⟨v8, e9, hf⟩ := pm_bd hf
  refine pm_callV (as := [.int 1]) (st := [.ref x0]) C X dX4_init_23 lnX4_13 myX7_count viX7_count ⟨by decide, by decide⟩ rfl rfl k7 (Nat.le_of_ble_eq_true rfl) kc1 kc2 (ctX7_count e9 ?_)
  show pm_G g 26 [(0, .ref x0), (1, .ref x1)] [.int v8, .ref x0] (pm_setR h s1 1 (some s0)) (pm_sz h - pm_sz h0) (pm_us h - pm_us h0)
  obtain ⟨u10, hf⟩ := pm_if hf
  refine pa_newa (hb := h) (h0 := h0) (t := 2) (N := v8.toNatClampNeg) C X (pm_S3R K0) m0 dX4_init_26 (by decide) rfl al2 u10.1 rfl u10.2 (moX4_init_b28 hf) ?_
  exact pm_sub [0, 1] rfl (bX4_init_28 C X ((m0.trans (pm_S3.le (pm_S3R K0))).trans (pm_Le_new _ _ _)) hf q nm)
set_option maxHeartbeats 4000000 in
set_option maxRecDepth 100000 in
theorem bX4_init_0 {g : pm_Gm} {l : Launch} {G : pm_Gl} {Qr : Option Value → pm_H → Prop} (C : pm_C g cX4_init RX4) {h0 h : pm_H} {x0 : Nat} {x1 : Nat} {r : pm_H} (X : pm_X g l G mX4_init (pm_sz r - pm_sz h0) (pm_us r - pm_us h0) Qr) (m0 : pm_Le h0 h) (hf : fX4_init_b0 h x0 x1 = some r) (q : Qr none r) (nm : g.2.2.2.2.2.2.2.2.1.name = "<init>") : pm_G g 0 [(0, .ref x0), (1, .ref x1)] [] h (pm_sz h - pm_sz h0) (pm_us h - pm_us h0) := by
  have le0 := moX4_init_b0 hf
  have kc1 := Nat.sub_le_sub_right le0.1 (pm_sz h0)
  have kc2 := Nat.sub_le_sub_right le0.2 (pm_us h0)
  have K0 := pm_S3.rf h
  unfold fX4_init_b0 at hf
  refine pm_aload_n C dX4_init_0 rfl rfl ?_
  refine pm_obj C X dX4_init_1 obX4_1 obI obC (by decide) (by decide) (Nat.le_of_ble_eq_true rfl) ?_
  refine pm_aload_n C dX4_init_4 rfl rfl ?_
  refine pm_aload_n C dX4_init_5 rfl rfl ?_
  obtain ⟨k1, hf⟩ := pm_if hf
  refine pm_putRF C dX4_init_6 flX4_7 rfl nm rfl fwX4_7 rfl k1 ?_
  refine pm_aload_n C dX4_init_9 rfl rfl ?_
  refine pm_aload_n C dX4_init_10 rfl rfl ?_
  refine pm_iconst (v := 0) C dX4_init_11 (by decide) ?_
  obtain ⟨k2, hf⟩ := pm_if hf
  obtain ⟨v3, e4, hf⟩ := pm_bd hf
  refine pm_callV (as := [.int 0]) (st := [.ref x0]) C X dX4_init_12 lnX4_13 myX7_count viX7_count ⟨by decide, by decide⟩ rfl rfl k2 (Nat.le_of_ble_eq_true rfl) kc1 kc2 (ctX7_count e4 ?_)
  show pm_G g 15 [(0, .ref x0), (1, .ref x1)] [.int v3, .ref x0] (pm_setR h x0 0 (some x1)) (pm_sz h - pm_sz h0) (pm_us h - pm_us h0)
  obtain ⟨u5, hf⟩ := pm_if hf
  refine pa_newa (hb := h) (h0 := h0) (t := 2) (N := v3.toNatClampNeg) C X (pm_S3R K0) m0 dX4_init_15 (by decide) rfl al2 u5.1 rfl u5.2 (moX4_init_b17 hf) ?_
  exact pm_sub [0, 1] rfl (bX4_init_17 C X ((m0.trans (pm_S3.le (pm_S3R K0))).trans (pm_Le_new _ _ _)) hf q nm)
set_option maxHeartbeats 4000000 in
set_option maxRecDepth 100000 in
theorem ctX4_init {l : Launch} {G : pm_Gl} {h : pm_H} {a0 : Nat} {p1 : Nat} {r : pm_H} {Qr : Option Value → pm_H → Prop} (hf : fX4_init h a0 p1 = some r) (q : Qr none r) : pm_Ct l G mX4_init [.ref a0, .ref p1] h (pm_sz r - pm_sz h) (pm_us r - pm_us h) Qr := by
  refine pm_bodyN pnX4 (Nat.le_of_ble_eq_true rfl) (fun g C X nm => ?_)
  have C : pm_C g cX4_init RX4 := C
  show pm_G g 0 [(0, .ref a0), (1, .ref p1)] [] h 0 0
  unfold fX4_init at hf
  exact pa_start (pm_sub [0, 1] rfl (bX4_init_0 C X (pm_Le.rf h) hf q nm))
theorem dX6_init_0 : decode cX6_init 0 = .ok (.aload_n 0, 1) := by decide +kernel
theorem dX6_init_1 : decode cX6_init 1 = .ok (.invokespecial 3, 3) := by decide +kernel
theorem dX6_init_4 : decode cX6_init 4 = .ok (.aload_n 0, 1) := by decide +kernel
theorem dX6_init_5 : decode cX6_init 5 = .ok (.bipush 8, 2) := by decide +kernel
theorem dX6_init_7 : decode cX6_init 7 = .ok (.putfield 11, 3) := by decide +kernel
theorem dX6_init_10 : decode cX6_init 10 = .ok (.aload_n 0, 1) := by decide +kernel
theorem dX6_init_11 : decode cX6_init 11 = .ok (.bipush 16, 2) := by decide +kernel
theorem dX6_init_13 : decode cX6_init 13 = .ok (.newarray .int, 2) := by decide +kernel
theorem dX6_init_15 : decode cX6_init 15 = .ok (.putfield 15, 3) := by decide +kernel
theorem dX6_init_18 : decode cX6_init 18 = .ok (.aload_n 0, 1) := by decide +kernel
theorem dX6_init_19 : decode cX6_init 19 = .ok (.bipush 16, 2) := by decide +kernel
theorem dX6_init_21 : decode cX6_init 21 = .ok (.newarray .long, 2) := by decide +kernel
theorem dX6_init_23 : decode cX6_init 23 = .ok (.putfield 19, 3) := by decide +kernel
theorem dX6_init_26 : decode cX6_init 26 = .ok (.aload_n 0, 1) := by decide +kernel
theorem dX6_init_27 : decode cX6_init 27 = .ok (.sipush 128, 3) := by decide +kernel
theorem dX6_init_30 : decode cX6_init 30 = .ok (.iconst 0, 1) := by decide +kernel
theorem dX6_init_31 : decode cX6_init 31 = .ok (.multianewarray 23 2, 4) := by decide +kernel
theorem dX6_init_35 : decode cX6_init 35 = .ok (.putfield 25, 3) := by decide +kernel
theorem dX6_init_38 : decode cX6_init 38 = .ok (.return_, 1) := by decide +kernel
def fX6_init_b35 (h : pm_H) (s0 : Nat) (s1 : Nat) : Option pm_H := if pm_kd h s1 = 6 then some (pm_setR h s1 4 (some s0)) else none
def fX6_init_b23 (h : pm_H) (x0 : Nat) (s0 : Nat) (s1 : Nat) : Option pm_H := if pm_kd h s1 = 6 then fX6_init_b35 (pm_ma (pm_setR h s1 3 (some s0)) 5 1 128 128) (pm_sz (pm_setR h s1 3 (some s0))) x0 else none
def fX6_init_b15 (h : pm_H) (x0 : Nat) (s0 : Nat) (s1 : Nat) : Option pm_H := if pm_kd h s1 = 6 then fX6_init_b23 (pm_new (pm_setR h s1 2 (some s0)) 35 16) x0 (pm_sz (pm_setR h s1 2 (some s0))) x0 else none
def fX6_init_b0 (h : pm_H) (x0 : Nat) : Option pm_H := if pm_kd h x0 = 6 then fX6_init_b15 (pm_new (pm_setI h x0 1 8) 34 16) x0 (pm_sz (pm_setI h x0 1 8)) x0 else none
def fX6_init (h : pm_H) (a0 : Nat) : Option pm_H := fX6_init_b0 h a0
set_option maxHeartbeats 4000000 in
set_option maxRecDepth 100000 in
theorem moX6_init_b35 {h : pm_H} {s0 : Nat} {s1 : Nat} {r : pm_H} (hf : fX6_init_b35 h s0 s1 = some r) : pm_Le h r := by
  unfold fX6_init_b35 at hf
  have K0 := pm_S3.rf h
  obtain ⟨k4, hf⟩ := pm_if hf
  have hf := Option.some.inj hf
  subst hf
  exact pm_S3.le (pm_S3R K0)
set_option maxHeartbeats 4000000 in
set_option maxRecDepth 100000 in
theorem moX6_init_b23 {h : pm_H} {x0 : Nat} {s0 : Nat} {s1 : Nat} {r : pm_H} (hf : fX6_init_b23 h x0 s0 s1 = some r) : pm_Le h r := by
  unfold fX6_init_b23 at hf
  have K0 := pm_S3.rf h
  obtain ⟨k3, hf⟩ := pm_if hf
  exact ((pm_S3.le (pm_S3R K0)).trans (pm_Le_ma _ _ _ _ _)).trans (moX6_init_b35 hf)
set_option maxHeartbeats 4000000 in
set_option maxRecDepth 100000 in
theorem moX6_init_b15 {h : pm_H} {x0 : Nat} {s0 : Nat} {s1 : Nat} {r : pm_H} (hf : fX6_init_b15 h x0 s0 s1 = some r) : pm_Le h r := by
  unfold fX6_init_b15 at hf
  have K0 := pm_S3.rf h
  obtain ⟨k2, hf⟩ := pm_if hf
  exact ((pm_S3.le (pm_S3R K0)).trans (pm_Le_new _ _ _)).trans (moX6_init_b23 hf)
set_option maxHeartbeats 4000000 in
set_option maxRecDepth 100000 in
theorem moX6_init_b0 {h : pm_H} {x0 : Nat} {r : pm_H} (hf : fX6_init_b0 h x0 = some r) : pm_Le h r := by
  unfold fX6_init_b0 at hf
  have K0 := pm_S3.rf h
  obtain ⟨k1, hf⟩ := pm_if hf
  exact ((pm_S3.le (pm_S3I K0)).trans (pm_Le_new _ _ _)).trans (moX6_init_b15 hf)
set_option maxHeartbeats 4000000 in
set_option maxRecDepth 100000 in
theorem moX6_init {h : pm_H} {a0 : Nat} {r : pm_H} (hf : fX6_init h a0 = some r) : pm_Le h r := by
  unfold fX6_init at hf
  have K0 := pm_S3.rf h
  exact (pm_S3.le K0).trans (moX6_init_b0 hf)
set_option maxHeartbeats 4000000 in
set_option maxRecDepth 100000 in
theorem bX6_init_35 {g : pm_Gm} {l : Launch} {G : pm_Gl} {Qr : Option Value → pm_H → Prop} (C : pm_C g cX6_init RX6) {h0 h : pm_H} {s0 : Nat} {s1 : Nat} {r : pm_H} (X : pm_X g l G mX6_init (pm_sz r - pm_sz h0) (pm_us r - pm_us h0) Qr) (m0 : pm_Le h0 h) (hf : fX6_init_b35 h s0 s1 = some r) (q : Qr none r) (nm : g.2.2.2.2.2.2.2.2.1.name = "<init>") : pm_G g 35 [] [.ref s0, .ref s1] h (pm_sz h - pm_sz h0) (pm_us h - pm_us h0) := by
  have le0 := moX6_init_b35 hf
  have kc1 := Nat.sub_le_sub_right le0.1 (pm_sz h0)
  have kc2 := Nat.sub_le_sub_right le0.2 (pm_us h0)
  have K0 := pm_S3.rf h
  unfold fX6_init_b35 at hf
  obtain ⟨k4, hf⟩ := pm_if hf
  refine pm_putRF C dX6_init_35 flX6_25 rfl nm rfl fwX6_25 rfl k4 ?_
  have hf := Option.some.inj hf
  subst hf
  exact pm_vret C X dX6_init_38 rfl kc1 kc2 q
set_option maxHeartbeats 4000000 in
set_option maxRecDepth 100000 in
theorem bX6_init_23 {g : pm_Gm} {l : Launch} {G : pm_Gl} {Qr : Option Value → pm_H → Prop} (C : pm_C g cX6_init RX6) {h0 h : pm_H} {x0 : Nat} {s0 : Nat} {s1 : Nat} {r : pm_H} (X : pm_X g l G mX6_init (pm_sz r - pm_sz h0) (pm_us r - pm_us h0) Qr) (m0 : pm_Le h0 h) (hf : fX6_init_b23 h x0 s0 s1 = some r) (q : Qr none r) (nm : g.2.2.2.2.2.2.2.2.1.name = "<init>") : pm_G g 23 [(0, .ref x0)] [.ref s0, .ref s1] h (pm_sz h - pm_sz h0) (pm_us h - pm_us h0) := by
  have le0 := moX6_init_b23 hf
  have kc1 := Nat.sub_le_sub_right le0.1 (pm_sz h0)
  have kc2 := Nat.sub_le_sub_right le0.2 (pm_us h0)
  have K0 := pm_S3.rf h
  unfold fX6_init_b23 at hf
  obtain ⟨k3, hf⟩ := pm_if hf
  refine pm_putRF C dX6_init_23 flX6_19 rfl nm rfl fwX6_19 rfl k3 ?_
  refine pm_aload_n C dX6_init_26 rfl rfl ?_
  refine pm_sipush (v := 128) C dX6_init_27 (by decide) ?_
  refine pm_iconst (v := 0) C dX6_init_30 (by decide) ?_
  refine pa_mna (hb := h) (h0 := h0) (t := 5) (u := 1) (N := 128) C X (pm_S3R K0) m0 dX6_init_31 (Or.inr ⟨rfl, rfl⟩) cmX6_23 al1 (by decide) (by decide +kernel) (by decide +kernel) (moX6_init_b35 hf) ?_
  exact pm_sub [] rfl (bX6_init_35 C X ((m0.trans (pm_S3.le (pm_S3R K0))).trans (pm_Le_ma _ _ _ _ _)) hf q nm)
set_option maxHeartbeats 4000000 in
set_option maxRecDepth 100000 in
theorem bX6_init_15 {g : pm_Gm} {l : Launch} {G : pm_Gl} {Qr : Option Value → pm_H → Prop} (C : pm_C g cX6_init RX6) {h0 h : pm_H} {x0 : Nat} {s0 : Nat} {s1 : Nat} {r : pm_H} (X : pm_X g l G mX6_init (pm_sz r - pm_sz h0) (pm_us r - pm_us h0) Qr) (m0 : pm_Le h0 h) (hf : fX6_init_b15 h x0 s0 s1 = some r) (q : Qr none r) (nm : g.2.2.2.2.2.2.2.2.1.name = "<init>") : pm_G g 15 [(0, .ref x0)] [.ref s0, .ref s1] h (pm_sz h - pm_sz h0) (pm_us h - pm_us h0) := by
  have le0 := moX6_init_b15 hf
  have kc1 := Nat.sub_le_sub_right le0.1 (pm_sz h0)
  have kc2 := Nat.sub_le_sub_right le0.2 (pm_us h0)
  have K0 := pm_S3.rf h
  unfold fX6_init_b15 at hf
  obtain ⟨k2, hf⟩ := pm_if hf
  refine pm_putRF C dX6_init_15 flX6_15 rfl nm rfl fwX6_15 rfl k2 ?_
  refine pm_aload_n C dX6_init_18 rfl rfl ?_
  refine pm_bipush (v := 16) C dX6_init_19 (by decide) ?_
  refine pa_newa (hb := h) (h0 := h0) (t := 3) (N := 16) C X (pm_S3R K0) m0 dX6_init_21 (by decide) rfl al3 (by decide) (by decide +kernel) (by decide +kernel) (moX6_init_b23 hf) ?_
  exact pm_sub [0] rfl (bX6_init_23 C X ((m0.trans (pm_S3.le (pm_S3R K0))).trans (pm_Le_new _ _ _)) hf q nm)
set_option maxHeartbeats 4000000 in
set_option maxRecDepth 100000 in
theorem bX6_init_0 {g : pm_Gm} {l : Launch} {G : pm_Gl} {Qr : Option Value → pm_H → Prop} (C : pm_C g cX6_init RX6) {h0 h : pm_H} {x0 : Nat} {r : pm_H} (X : pm_X g l G mX6_init (pm_sz r - pm_sz h0) (pm_us r - pm_us h0) Qr) (m0 : pm_Le h0 h) (hf : fX6_init_b0 h x0 = some r) (q : Qr none r) (nm : g.2.2.2.2.2.2.2.2.1.name = "<init>") : pm_G g 0 [(0, .ref x0)] [] h (pm_sz h - pm_sz h0) (pm_us h - pm_us h0) := by
  have le0 := moX6_init_b0 hf
  have kc1 := Nat.sub_le_sub_right le0.1 (pm_sz h0)
  have kc2 := Nat.sub_le_sub_right le0.2 (pm_us h0)
  have K0 := pm_S3.rf h
  unfold fX6_init_b0 at hf
  refine pm_aload_n C dX6_init_0 rfl rfl ?_
  refine pm_obj C X dX6_init_1 obX6_3 obI obC (by decide) (by decide) (Nat.le_of_ble_eq_true rfl) ?_
  refine pm_aload_n C dX6_init_4 rfl rfl ?_
  refine pm_bipush (v := 8) C dX6_init_5 (by decide) ?_
  obtain ⟨k1, hf⟩ := pm_if hf
  refine pm_putI C dX6_init_7 flX6_11 rfl rfl k1 rfl rfl ?_
  refine pm_aload_n C dX6_init_10 rfl rfl ?_
  refine pm_bipush (v := 16) C dX6_init_11 (by decide) ?_
  refine pa_newa (hb := h) (h0 := h0) (t := 2) (N := 16) C X (pm_S3I K0) m0 dX6_init_13 (by decide) rfl al2 (by decide) (by decide +kernel) (by decide +kernel) (moX6_init_b15 hf) ?_
  exact pm_sub [0] rfl (bX6_init_15 C X ((m0.trans (pm_S3.le (pm_S3I K0))).trans (pm_Le_new _ _ _)) hf q nm)
set_option maxHeartbeats 4000000 in
set_option maxRecDepth 100000 in
theorem ctX6_init {l : Launch} {G : pm_Gl} {h : pm_H} {a0 : Nat} {r : pm_H} {Qr : Option Value → pm_H → Prop} (hf : fX6_init h a0 = some r) (q : Qr none r) : pm_Ct l G mX6_init [.ref a0] h (pm_sz r - pm_sz h) (pm_us r - pm_us h) Qr := by
  refine pm_bodyN pnX6 (Nat.le_of_ble_eq_true rfl) (fun g C X nm => ?_)
  have C : pm_C g cX6_init RX6 := C
  show pm_G g 0 [(0, .ref a0)] [] h 0 0
  unfold fX6_init at hf
  exact pa_start (pm_sub [0] rfl (bX6_init_0 C X (pm_Le.rf h) hf q nm))
