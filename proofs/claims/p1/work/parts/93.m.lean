theorem dX0_init_0 : decode cX0_init 0 = .ok (.aload_n 0, 1) := by decide +kernel
theorem dX0_init_1 : decode cX0_init 1 = .ok (.invokespecial 1, 3) := by decide +kernel
theorem dX0_init_4 : decode cX0_init 4 = .ok (.aload_n 0, 1) := by decide +kernel
theorem dX0_init_5 : decode cX0_init 5 = .ok (.iconst 0, 1) := by decide +kernel
theorem dX0_init_6 : decode cX0_init 6 = .ok (.newarray .int, 2) := by decide +kernel
theorem dX0_init_8 : decode cX0_init 8 = .ok (.putfield 7, 3) := by decide +kernel
theorem dX0_init_11 : decode cX0_init 11 = .ok (.aload_n 0, 1) := by decide +kernel
theorem dX0_init_12 : decode cX0_init 12 = .ok (.iconst 0, 1) := by decide +kernel
theorem dX0_init_13 : decode cX0_init 13 = .ok (.newarray .int, 2) := by decide +kernel
theorem dX0_init_15 : decode cX0_init 15 = .ok (.putfield 13, 3) := by decide +kernel
theorem dX0_init_18 : decode cX0_init 18 = .ok (.aload_n 0, 1) := by decide +kernel
theorem dX0_init_19 : decode cX0_init 19 = .ok (.iconst 0, 1) := by decide +kernel
theorem dX0_init_20 : decode cX0_init 20 = .ok (.newarray .long, 2) := by decide +kernel
theorem dX0_init_22 : decode cX0_init 22 = .ok (.putfield 16, 3) := by decide +kernel
theorem dX0_init_25 : decode cX0_init 25 = .ok (.aload_n 0, 1) := by decide +kernel
theorem dX0_init_26 : decode cX0_init 26 = .ok (.aload_n 1, 1) := by decide +kernel
theorem dX0_init_27 : decode cX0_init 27 = .ok (.putfield 20, 3) := by decide +kernel
theorem dX0_init_30 : decode cX0_init 30 = .ok (.aload_n 0, 1) := by decide +kernel
theorem dX0_init_31 : decode cX0_init 31 = .ok (.iconst 5, 1) := by decide +kernel
theorem dX0_init_32 : decode cX0_init 32 = .ok (.iconst 0, 1) := by decide +kernel
theorem dX0_init_33 : decode cX0_init 33 = .ok (.iload_n 2, 1) := by decide +kernel
theorem dX0_init_34 : decode cX0_init 34 = .ok (.invokestatic 23, 3) := by decide +kernel
theorem dX0_init_37 : decode cX0_init 37 = .ok (.imul, 1) := by decide +kernel
theorem dX0_init_38 : decode cX0_init 38 = .ok (.newarray .int, 2) := by decide +kernel
theorem dX0_init_40 : decode cX0_init 40 = .ok (.putfield 29, 3) := by decide +kernel
theorem dX0_init_43 : decode cX0_init 43 = .ok (.return_, 1) := by decide +kernel
def fX0_init_b40 (h : pm_H) (s0 : Nat) (s1 : Nat) : Option pm_H := if pm_kd h s1 = 0 then some (pm_setR h s1 1 (some s0)) else none
def fX0_init_b22 (h : pm_H) (x0 : Nat) (x1 : Nat) (x2 : Int32) (s0 : Nat) (s1 : Nat) : Option pm_H := if pm_kd h s1 = 0 then if pm_kd (pm_setR h s1 8 (some s0)) x0 = 0 then pm_let (5 * (if (0 : Int32) < x2 then x2 else (0 : Int32))) fun y5 => if ¬ y5 < 0 ∧ y5.toNatClampNeg * 4 ≤ 536870912 then fX0_init_b40 (pm_new (pm_setR (pm_setR h s1 8 (some s0)) x0 0 (some x1)) 34 y5.toNatClampNeg) (pm_sz (pm_setR (pm_setR h s1 8 (some s0)) x0 0 (some x1))) x0 else none else none else none
def fX0_init_b15 (h : pm_H) (x0 : Nat) (x1 : Nat) (x2 : Int32) (s0 : Nat) (s1 : Nat) : Option pm_H := if pm_kd h s1 = 0 then fX0_init_b22 (pm_new (pm_setR h s1 7 (some s0)) 35 0) x0 x1 x2 (pm_sz (pm_setR h s1 7 (some s0))) x0 else none
def fX0_init_b8 (h : pm_H) (x0 : Nat) (x1 : Nat) (x2 : Int32) (s0 : Nat) (s1 : Nat) : Option pm_H := if pm_kd h s1 = 0 then fX0_init_b15 (pm_new (pm_setR h s1 5 (some s0)) 34 0) x0 x1 x2 (pm_sz (pm_setR h s1 5 (some s0))) x0 else none
def fX0_init_b0 (h : pm_H) (x0 : Nat) (x1 : Nat) (x2 : Int32) : Option pm_H := fX0_init_b8 (pm_new h 34 0) x0 x1 x2 (pm_sz h) x0
def fX0_init (h : pm_H) (a0 : Nat) (p1 : Nat) (p2 : Int32) : Option pm_H := fX0_init_b0 h a0 p1 p2
set_option maxHeartbeats 4000000 in
set_option maxRecDepth 100000 in
theorem moX0_init_b40 {h : pm_H} {s0 : Nat} {s1 : Nat} {r : pm_H} (hf : fX0_init_b40 h s0 s1 = some r) : pm_Le h r := by
  unfold fX0_init_b40 at hf
  have K0 := pm_S3.rf h
  obtain ⟨k8, hf⟩ := pm_if hf
  have hf := Option.some.inj hf
  subst hf
  exact pm_S3.le (pm_S3R K0)
set_option maxHeartbeats 4000000 in
set_option maxRecDepth 100000 in
theorem moX0_init_b22 {h : pm_H} {x0 : Nat} {x1 : Nat} {x2 : Int32} {s0 : Nat} {s1 : Nat} {r : pm_H} (hf : fX0_init_b22 h x0 x1 x2 s0 s1 = some r) : pm_Le h r := by
  unfold fX0_init_b22 at hf
  have K0 := pm_S3.rf h
  obtain ⟨k3, hf⟩ := pm_if hf
  obtain ⟨k4, hf⟩ := pm_if hf
  obtain ⟨y5, e6, hf⟩ := pm_lt hf
  obtain ⟨u7, hf⟩ := pm_if hf
  exact ((pm_S3.le (pm_S3R (pm_S3R K0))).trans (pm_Le_new _ _ _)).trans (moX0_init_b40 hf)
set_option maxHeartbeats 4000000 in
set_option maxRecDepth 100000 in
theorem moX0_init_b15 {h : pm_H} {x0 : Nat} {x1 : Nat} {x2 : Int32} {s0 : Nat} {s1 : Nat} {r : pm_H} (hf : fX0_init_b15 h x0 x1 x2 s0 s1 = some r) : pm_Le h r := by
  unfold fX0_init_b15 at hf
  have K0 := pm_S3.rf h
  obtain ⟨k2, hf⟩ := pm_if hf
  exact ((pm_S3.le (pm_S3R K0)).trans (pm_Le_new _ _ _)).trans (moX0_init_b22 hf)
set_option maxHeartbeats 4000000 in
set_option maxRecDepth 100000 in
theorem moX0_init_b8 {h : pm_H} {x0 : Nat} {x1 : Nat} {x2 : Int32} {s0 : Nat} {s1 : Nat} {r : pm_H} (hf : fX0_init_b8 h x0 x1 x2 s0 s1 = some r) : pm_Le h r := by
  unfold fX0_init_b8 at hf
  have K0 := pm_S3.rf h
  obtain ⟨k1, hf⟩ := pm_if hf
  exact ((pm_S3.le (pm_S3R K0)).trans (pm_Le_new _ _ _)).trans (moX0_init_b15 hf)
set_option maxHeartbeats 4000000 in
set_option maxRecDepth 100000 in
theorem moX0_init_b0 {h : pm_H} {x0 : Nat} {x1 : Nat} {x2 : Int32} {r : pm_H} (hf : fX0_init_b0 h x0 x1 x2 = some r) : pm_Le h r := by
  unfold fX0_init_b0 at hf
  have K0 := pm_S3.rf h
  exact ((pm_S3.le K0).trans (pm_Le_new _ _ _)).trans (moX0_init_b8 hf)
set_option maxHeartbeats 4000000 in
set_option maxRecDepth 100000 in
theorem moX0_init {h : pm_H} {a0 : Nat} {p1 : Nat} {p2 : Int32} {r : pm_H} (hf : fX0_init h a0 p1 p2 = some r) : pm_Le h r := by
  unfold fX0_init at hf
  have K0 := pm_S3.rf h
  exact (pm_S3.le K0).trans (moX0_init_b0 hf)
set_option maxHeartbeats 4000000 in
set_option maxRecDepth 100000 in
theorem bX0_init_40 {g : pm_Gm} {l : Launch} {G : pm_Gl} {Qr : Option Value → pm_H → Prop} (C : pm_C g cX0_init RX0) {h0 h : pm_H} {s0 : Nat} {s1 : Nat} {r : pm_H} (X : pm_X g l G mX0_init (pm_sz r - pm_sz h0) (pm_us r - pm_us h0) Qr) (m0 : pm_Le h0 h) (hf : fX0_init_b40 h s0 s1 = some r) (q : Qr none r) (nm : g.2.2.2.2.2.2.2.2.1.name = "<init>") : pm_G g 40 [] [.ref s0, .ref s1] h (pm_sz h - pm_sz h0) (pm_us h - pm_us h0) := by
  have le0 := moX0_init_b40 hf
  have kc1 := Nat.sub_le_sub_right le0.1 (pm_sz h0)
  have kc2 := Nat.sub_le_sub_right le0.2 (pm_us h0)
  have K0 := pm_S3.rf h
  unfold fX0_init_b40 at hf
  obtain ⟨k8, hf⟩ := pm_if hf
  refine pm_putRF C dX0_init_40 flX0_29 rfl nm rfl fwX0_29 rfl k8 ?_
  have hf := Option.some.inj hf
  subst hf
  exact pm_vret C X dX0_init_43 rfl kc1 kc2 q
set_option maxHeartbeats 4000000 in
set_option maxRecDepth 100000 in
theorem bX0_init_22 {g : pm_Gm} {l : Launch} {G : pm_Gl} {Qr : Option Value → pm_H → Prop} (C : pm_C g cX0_init RX0) {h0 h : pm_H} {x0 : Nat} {x1 : Nat} {x2 : Int32} {s0 : Nat} {s1 : Nat} {r : pm_H} (X : pm_X g l G mX0_init (pm_sz r - pm_sz h0) (pm_us r - pm_us h0) Qr) (m0 : pm_Le h0 h) (hf : fX0_init_b22 h x0 x1 x2 s0 s1 = some r) (q : Qr none r) (nm : g.2.2.2.2.2.2.2.2.1.name = "<init>") : pm_G g 22 [(0, .ref x0), (1, .ref x1), (2, .int x2)] [.ref s0, .ref s1] h (pm_sz h - pm_sz h0) (pm_us h - pm_us h0) := by
  have le0 := moX0_init_b22 hf
  have kc1 := Nat.sub_le_sub_right le0.1 (pm_sz h0)
  have kc2 := Nat.sub_le_sub_right le0.2 (pm_us h0)
  have K0 := pm_S3.rf h
  unfold fX0_init_b22 at hf
  obtain ⟨k3, hf⟩ := pm_if hf
  refine pm_putR C dX0_init_22 flX0_16 rfl rfl k3 ?_
  refine pm_aload_n C dX0_init_25 rfl rfl ?_
  refine pm_aload_n C dX0_init_26 rfl rfl ?_
  obtain ⟨k4, hf⟩ := pm_if hf
  refine pm_putRF C dX0_init_27 flX0_20 rfl nm rfl fwX0_20 rfl k4 ?_
  refine pm_aload_n C dX0_init_30 rfl rfl ?_
  refine pm_iconst (v := 5) C dX0_init_31 (by decide) ?_
  refine pm_iconst (v := 0) C dX0_init_32 (by decide) ?_
  refine pm_iload_n C dX0_init_33 rfl rfl ?_
  refine pm_mmaxI C (pm_XR X) dX0_init_34 mtX0_23 (by decide) (by decide) (Nat.le_of_ble_eq_true rfl) kc1 kc2 ?_
  refine pm_imul C dX0_init_37 ?_
  obtain ⟨y5, e6, hf⟩ := pm_lt hf
  refine pm_topI e6 ?_
  obtain ⟨u7, hf⟩ := pm_if hf
  refine pa_newa (hb := h) (h0 := h0) (t := 2) (N := y5.toNatClampNeg) C X (pm_S3R (pm_S3R K0)) m0 dX0_init_38 (by decide) rfl al2 u7.1 rfl u7.2 (moX0_init_b40 hf) ?_
  exact pm_sub [] rfl (bX0_init_40 C X ((m0.trans (pm_S3.le (pm_S3R (pm_S3R K0)))).trans (pm_Le_new _ _ _)) hf q nm)
set_option maxHeartbeats 4000000 in
set_option maxRecDepth 100000 in
theorem bX0_init_15 {g : pm_Gm} {l : Launch} {G : pm_Gl} {Qr : Option Value → pm_H → Prop} (C : pm_C g cX0_init RX0) {h0 h : pm_H} {x0 : Nat} {x1 : Nat} {x2 : Int32} {s0 : Nat} {s1 : Nat} {r : pm_H} (X : pm_X g l G mX0_init (pm_sz r - pm_sz h0) (pm_us r - pm_us h0) Qr) (m0 : pm_Le h0 h) (hf : fX0_init_b15 h x0 x1 x2 s0 s1 = some r) (q : Qr none r) (nm : g.2.2.2.2.2.2.2.2.1.name = "<init>") : pm_G g 15 [(0, .ref x0), (1, .ref x1), (2, .int x2)] [.ref s0, .ref s1] h (pm_sz h - pm_sz h0) (pm_us h - pm_us h0) := by
  have le0 := moX0_init_b15 hf
  have kc1 := Nat.sub_le_sub_right le0.1 (pm_sz h0)
  have kc2 := Nat.sub_le_sub_right le0.2 (pm_us h0)
  have K0 := pm_S3.rf h
  unfold fX0_init_b15 at hf
  obtain ⟨k2, hf⟩ := pm_if hf
  refine pm_putR C dX0_init_15 flX0_13 rfl rfl k2 ?_
  refine pm_aload_n C dX0_init_18 rfl rfl ?_
  refine pm_iconst (v := 0) C dX0_init_19 (by decide) ?_
  refine pa_newa (hb := h) (h0 := h0) (t := 3) (N := 0) C X (pm_S3R K0) m0 dX0_init_20 (by decide) rfl al3 (by decide) (by decide +kernel) (by decide +kernel) (moX0_init_b22 hf) ?_
  exact pm_sub [0, 1, 2] rfl (bX0_init_22 C X ((m0.trans (pm_S3.le (pm_S3R K0))).trans (pm_Le_new _ _ _)) hf q nm)
set_option maxHeartbeats 4000000 in
set_option maxRecDepth 100000 in
theorem bX0_init_8 {g : pm_Gm} {l : Launch} {G : pm_Gl} {Qr : Option Value → pm_H → Prop} (C : pm_C g cX0_init RX0) {h0 h : pm_H} {x0 : Nat} {x1 : Nat} {x2 : Int32} {s0 : Nat} {s1 : Nat} {r : pm_H} (X : pm_X g l G mX0_init (pm_sz r - pm_sz h0) (pm_us r - pm_us h0) Qr) (m0 : pm_Le h0 h) (hf : fX0_init_b8 h x0 x1 x2 s0 s1 = some r) (q : Qr none r) (nm : g.2.2.2.2.2.2.2.2.1.name = "<init>") : pm_G g 8 [(0, .ref x0), (1, .ref x1), (2, .int x2)] [.ref s0, .ref s1] h (pm_sz h - pm_sz h0) (pm_us h - pm_us h0) := by
  have le0 := moX0_init_b8 hf
  have kc1 := Nat.sub_le_sub_right le0.1 (pm_sz h0)
  have kc2 := Nat.sub_le_sub_right le0.2 (pm_us h0)
  have K0 := pm_S3.rf h
  unfold fX0_init_b8 at hf
  obtain ⟨k1, hf⟩ := pm_if hf
  refine pm_putR C dX0_init_8 flX0_7 rfl rfl k1 ?_
  refine pm_aload_n C dX0_init_11 rfl rfl ?_
  refine pm_iconst (v := 0) C dX0_init_12 (by decide) ?_
  refine pa_newa (hb := h) (h0 := h0) (t := 2) (N := 0) C X (pm_S3R K0) m0 dX0_init_13 (by decide) rfl al2 (by decide) (by decide +kernel) (by decide +kernel) (moX0_init_b15 hf) ?_
  exact pm_sub [0, 1, 2] rfl (bX0_init_15 C X ((m0.trans (pm_S3.le (pm_S3R K0))).trans (pm_Le_new _ _ _)) hf q nm)
set_option maxHeartbeats 4000000 in
set_option maxRecDepth 100000 in
theorem bX0_init_0 {g : pm_Gm} {l : Launch} {G : pm_Gl} {Qr : Option Value → pm_H → Prop} (C : pm_C g cX0_init RX0) {h0 h : pm_H} {x0 : Nat} {x1 : Nat} {x2 : Int32} {r : pm_H} (X : pm_X g l G mX0_init (pm_sz r - pm_sz h0) (pm_us r - pm_us h0) Qr) (m0 : pm_Le h0 h) (hf : fX0_init_b0 h x0 x1 x2 = some r) (q : Qr none r) (nm : g.2.2.2.2.2.2.2.2.1.name = "<init>") : pm_G g 0 [(0, .ref x0), (1, .ref x1), (2, .int x2)] [] h (pm_sz h - pm_sz h0) (pm_us h - pm_us h0) := by
  have le0 := moX0_init_b0 hf
  have kc1 := Nat.sub_le_sub_right le0.1 (pm_sz h0)
  have kc2 := Nat.sub_le_sub_right le0.2 (pm_us h0)
  have K0 := pm_S3.rf h
  unfold fX0_init_b0 at hf
  refine pm_aload_n C dX0_init_0 rfl rfl ?_
  refine pm_obj C X dX0_init_1 obX0_1 obI obC (by decide) (by decide) (Nat.le_of_ble_eq_true rfl) ?_
  refine pm_aload_n C dX0_init_4 rfl rfl ?_
  refine pm_iconst (v := 0) C dX0_init_5 (by decide) ?_
  refine pa_newa (hb := h) (h0 := h0) (t := 2) (N := 0) C X K0 m0 dX0_init_6 (by decide) rfl al2 (by decide) (by decide +kernel) (by decide +kernel) (moX0_init_b8 hf) ?_
  exact pm_sub [0, 1, 2] rfl (bX0_init_8 C X ((m0.trans (pm_S3.le K0)).trans (pm_Le_new _ _ _)) hf q nm)
set_option maxHeartbeats 4000000 in
set_option maxRecDepth 100000 in
theorem ctX0_init {l : Launch} {G : pm_Gl} {h : pm_H} {a0 : Nat} {p1 : Nat} {p2 : Int32} {r : pm_H} {Qr : Option Value → pm_H → Prop} (hf : fX0_init h a0 p1 p2 = some r) (q : Qr none r) : pm_Ct l G mX0_init [.ref a0, .ref p1, .int p2] h (pm_sz r - pm_sz h) (pm_us r - pm_us h) Qr := by
  refine pm_bodyN pnX0 (Nat.le_of_ble_eq_true rfl) (fun g C X nm => ?_)
  have C : pm_C g cX0_init RX0 := C
  show pm_G g 0 [(0, .ref a0), (1, .ref p1), (2, .int p2)] [] h 0 0
  unfold fX0_init at hf
  exact pa_start (pm_sub [0, 1, 2] rfl (bX0_init_0 C X (pm_Le.rf h) hf q nm))
theorem dX2_init_0 : decode cX2_init 0 = .ok (.aload_n 0, 1) := by decide +kernel
theorem dX2_init_1 : decode cX2_init 1 = .ok (.invokespecial 3, 3) := by decide +kernel
theorem dX2_init_4 : decode cX2_init 4 = .ok (.aload_n 0, 1) := by decide +kernel
theorem dX2_init_5 : decode cX2_init 5 = .ok (.ldc 11, 2) := by decide +kernel
theorem dX2_init_7 : decode cX2_init 7 = .ok (.putfield 12, 3) := by decide +kernel
theorem dX2_init_10 : decode cX2_init 10 = .ok (.aload_n 0, 1) := by decide +kernel
theorem dX2_init_11 : decode cX2_init 11 = .ok (.iconst 0, 1) := by decide +kernel
theorem dX2_init_12 : decode cX2_init 12 = .ok (.newarray .int, 2) := by decide +kernel
theorem dX2_init_14 : decode cX2_init 14 = .ok (.putfield 16, 3) := by decide +kernel
theorem dX2_init_17 : decode cX2_init 17 = .ok (.aload_n 0, 1) := by decide +kernel
theorem dX2_init_18 : decode cX2_init 18 = .ok (.iconst 0, 1) := by decide +kernel
theorem dX2_init_19 : decode cX2_init 19 = .ok (.newarray .long, 2) := by decide +kernel
theorem dX2_init_21 : decode cX2_init 21 = .ok (.putfield 20, 3) := by decide +kernel
theorem dX2_init_24 : decode cX2_init 24 = .ok (.aload_n 0, 1) := by decide +kernel
theorem dX2_init_25 : decode cX2_init 25 = .ok (.iconst 0, 1) := by decide +kernel
theorem dX2_init_26 : decode cX2_init 26 = .ok (.newarray .int, 2) := by decide +kernel
theorem dX2_init_28 : decode cX2_init 28 = .ok (.putfield 24, 3) := by decide +kernel
theorem dX2_init_31 : decode cX2_init 31 = .ok (.aload_n 0, 1) := by decide +kernel
theorem dX2_init_32 : decode cX2_init 32 = .ok (.iconst 0, 1) := by decide +kernel
theorem dX2_init_33 : decode cX2_init 33 = .ok (.newarray .boolean, 2) := by decide +kernel
theorem dX2_init_35 : decode cX2_init 35 = .ok (.putfield 27, 3) := by decide +kernel
theorem dX2_init_38 : decode cX2_init 38 = .ok (.aload_n 0, 1) := by decide +kernel
theorem dX2_init_39 : decode cX2_init 39 = .ok (.sipush 1001, 3) := by decide +kernel
theorem dX2_init_42 : decode cX2_init 42 = .ok (.newarray .int, 2) := by decide +kernel
theorem dX2_init_44 : decode cX2_init 44 = .ok (.putfield 31, 3) := by decide +kernel
theorem dX2_init_47 : decode cX2_init 47 = .ok (.aload_n 0, 1) := by decide +kernel
theorem dX2_init_48 : decode cX2_init 48 = .ok (.aload_n 1, 1) := by decide +kernel
theorem dX2_init_49 : decode cX2_init 49 = .ok (.putfield 34, 3) := by decide +kernel
theorem dX2_init_52 : decode cX2_init 52 = .ok (.return_, 1) := by decide +kernel
def fX2_init_b44 (h : pm_H) (x0 : Nat) (x1 : Nat) (s0 : Nat) (s1 : Nat) : Option pm_H := if pm_kd h s1 = 2 then if pm_kd (pm_setR h s1 10 (some s0)) x0 = 2 then some (pm_setR (pm_setR h s1 10 (some s0)) x0 1 (some x1)) else none else none
def fX2_init_b35 (h : pm_H) (x0 : Nat) (x1 : Nat) (s0 : Nat) (s1 : Nat) : Option pm_H := if pm_kd h s1 = 2 then fX2_init_b44 (pm_new (pm_setR h s1 9 (some s0)) 34 1001) x0 x1 (pm_sz (pm_setR h s1 9 (some s0))) x0 else none
def fX2_init_b28 (h : pm_H) (x0 : Nat) (x1 : Nat) (s0 : Nat) (s1 : Nat) : Option pm_H := if pm_kd h s1 = 2 then fX2_init_b35 (pm_new (pm_setR h s1 8 (some s0)) 32 0) x0 x1 (pm_sz (pm_setR h s1 8 (some s0))) x0 else none
def fX2_init_b21 (h : pm_H) (x0 : Nat) (x1 : Nat) (s0 : Nat) (s1 : Nat) : Option pm_H := if pm_kd h s1 = 2 then fX2_init_b28 (pm_new (pm_setR h s1 6 (some s0)) 34 0) x0 x1 (pm_sz (pm_setR h s1 6 (some s0))) x0 else none
def fX2_init_b14 (h : pm_H) (x0 : Nat) (x1 : Nat) (s0 : Nat) (s1 : Nat) : Option pm_H := if pm_kd h s1 = 2 then fX2_init_b21 (pm_new (pm_setR h s1 3 (some s0)) 35 0) x0 x1 (pm_sz (pm_setR h s1 3 (some s0))) x0 else none
def fX2_init_b0 (h : pm_H) (x0 : Nat) (x1 : Nat) : Option pm_H := if pm_kd h x0 = 2 then fX2_init_b14 (pm_new (pm_setI h x0 0 32768) 34 0) x0 x1 (pm_sz (pm_setI h x0 0 32768)) x0 else none
def fX2_init (h : pm_H) (a0 : Nat) (p1 : Nat) : Option pm_H := fX2_init_b0 h a0 p1
set_option maxHeartbeats 4000000 in
set_option maxRecDepth 100000 in
theorem moX2_init_b44 {h : pm_H} {x0 : Nat} {x1 : Nat} {s0 : Nat} {s1 : Nat} {r : pm_H} (hf : fX2_init_b44 h x0 x1 s0 s1 = some r) : pm_Le h r := by
  unfold fX2_init_b44 at hf
  have K0 := pm_S3.rf h
  obtain ⟨k6, hf⟩ := pm_if hf
  obtain ⟨k7, hf⟩ := pm_if hf
  have hf := Option.some.inj hf
  subst hf
  exact pm_S3.le (pm_S3R (pm_S3R K0))
set_option maxHeartbeats 4000000 in
set_option maxRecDepth 100000 in
theorem moX2_init_b35 {h : pm_H} {x0 : Nat} {x1 : Nat} {s0 : Nat} {s1 : Nat} {r : pm_H} (hf : fX2_init_b35 h x0 x1 s0 s1 = some r) : pm_Le h r := by
  unfold fX2_init_b35 at hf
  have K0 := pm_S3.rf h
  obtain ⟨k5, hf⟩ := pm_if hf
  exact ((pm_S3.le (pm_S3R K0)).trans (pm_Le_new _ _ _)).trans (moX2_init_b44 hf)
set_option maxHeartbeats 4000000 in
set_option maxRecDepth 100000 in
theorem moX2_init_b28 {h : pm_H} {x0 : Nat} {x1 : Nat} {s0 : Nat} {s1 : Nat} {r : pm_H} (hf : fX2_init_b28 h x0 x1 s0 s1 = some r) : pm_Le h r := by
  unfold fX2_init_b28 at hf
  have K0 := pm_S3.rf h
  obtain ⟨k4, hf⟩ := pm_if hf
  exact ((pm_S3.le (pm_S3R K0)).trans (pm_Le_new _ _ _)).trans (moX2_init_b35 hf)
set_option maxHeartbeats 4000000 in
set_option maxRecDepth 100000 in
theorem moX2_init_b21 {h : pm_H} {x0 : Nat} {x1 : Nat} {s0 : Nat} {s1 : Nat} {r : pm_H} (hf : fX2_init_b21 h x0 x1 s0 s1 = some r) : pm_Le h r := by
  unfold fX2_init_b21 at hf
  have K0 := pm_S3.rf h
  obtain ⟨k3, hf⟩ := pm_if hf
  exact ((pm_S3.le (pm_S3R K0)).trans (pm_Le_new _ _ _)).trans (moX2_init_b28 hf)
set_option maxHeartbeats 4000000 in
set_option maxRecDepth 100000 in
theorem moX2_init_b14 {h : pm_H} {x0 : Nat} {x1 : Nat} {s0 : Nat} {s1 : Nat} {r : pm_H} (hf : fX2_init_b14 h x0 x1 s0 s1 = some r) : pm_Le h r := by
  unfold fX2_init_b14 at hf
  have K0 := pm_S3.rf h
  obtain ⟨k2, hf⟩ := pm_if hf
  exact ((pm_S3.le (pm_S3R K0)).trans (pm_Le_new _ _ _)).trans (moX2_init_b21 hf)
set_option maxHeartbeats 4000000 in
set_option maxRecDepth 100000 in
theorem moX2_init_b0 {h : pm_H} {x0 : Nat} {x1 : Nat} {r : pm_H} (hf : fX2_init_b0 h x0 x1 = some r) : pm_Le h r := by
  unfold fX2_init_b0 at hf
  have K0 := pm_S3.rf h
  obtain ⟨k1, hf⟩ := pm_if hf
  exact ((pm_S3.le (pm_S3I K0)).trans (pm_Le_new _ _ _)).trans (moX2_init_b14 hf)
set_option maxHeartbeats 4000000 in
set_option maxRecDepth 100000 in
theorem moX2_init {h : pm_H} {a0 : Nat} {p1 : Nat} {r : pm_H} (hf : fX2_init h a0 p1 = some r) : pm_Le h r := by
  unfold fX2_init at hf
  have K0 := pm_S3.rf h
  exact (pm_S3.le K0).trans (moX2_init_b0 hf)
set_option maxHeartbeats 4000000 in
set_option maxRecDepth 100000 in
theorem bX2_init_44 {g : pm_Gm} {l : Launch} {G : pm_Gl} {Qr : Option Value → pm_H → Prop} (C : pm_C g cX2_init RX2) {h0 h : pm_H} {x0 : Nat} {x1 : Nat} {s0 : Nat} {s1 : Nat} {r : pm_H} (X : pm_X g l G mX2_init (pm_sz r - pm_sz h0) (pm_us r - pm_us h0) Qr) (m0 : pm_Le h0 h) (hf : fX2_init_b44 h x0 x1 s0 s1 = some r) (q : Qr none r) (nm : g.2.2.2.2.2.2.2.2.1.name = "<init>") : pm_G g 44 [(0, .ref x0), (1, .ref x1)] [.ref s0, .ref s1] h (pm_sz h - pm_sz h0) (pm_us h - pm_us h0) := by
  have le0 := moX2_init_b44 hf
  have kc1 := Nat.sub_le_sub_right le0.1 (pm_sz h0)
  have kc2 := Nat.sub_le_sub_right le0.2 (pm_us h0)
  have K0 := pm_S3.rf h
  unfold fX2_init_b44 at hf
  obtain ⟨k6, hf⟩ := pm_if hf
  refine pm_putRF C dX2_init_44 flX2_31 rfl nm rfl fwX2_31 rfl k6 ?_
  refine pm_aload_n C dX2_init_47 rfl rfl ?_
  refine pm_aload_n C dX2_init_48 rfl rfl ?_
  obtain ⟨k7, hf⟩ := pm_if hf
  refine pm_putR C dX2_init_49 flX2_34 rfl rfl k7 ?_
  have hf := Option.some.inj hf
  subst hf
  exact pm_vret C X dX2_init_52 rfl kc1 kc2 q
set_option maxHeartbeats 4000000 in
set_option maxRecDepth 100000 in
theorem bX2_init_35 {g : pm_Gm} {l : Launch} {G : pm_Gl} {Qr : Option Value → pm_H → Prop} (C : pm_C g cX2_init RX2) {h0 h : pm_H} {x0 : Nat} {x1 : Nat} {s0 : Nat} {s1 : Nat} {r : pm_H} (X : pm_X g l G mX2_init (pm_sz r - pm_sz h0) (pm_us r - pm_us h0) Qr) (m0 : pm_Le h0 h) (hf : fX2_init_b35 h x0 x1 s0 s1 = some r) (q : Qr none r) (nm : g.2.2.2.2.2.2.2.2.1.name = "<init>") : pm_G g 35 [(0, .ref x0), (1, .ref x1)] [.ref s0, .ref s1] h (pm_sz h - pm_sz h0) (pm_us h - pm_us h0) := by
  have le0 := moX2_init_b35 hf
  have kc1 := Nat.sub_le_sub_right le0.1 (pm_sz h0)
  have kc2 := Nat.sub_le_sub_right le0.2 (pm_us h0)
  have K0 := pm_S3.rf h
  unfold fX2_init_b35 at hf
  obtain ⟨k5, hf⟩ := pm_if hf
  refine pm_putR C dX2_init_35 flX2_27 rfl rfl k5 ?_
  refine pm_aload_n C dX2_init_38 rfl rfl ?_
  refine pm_sipush (v := 1001) C dX2_init_39 (by decide) ?_
  refine pa_newa (hb := h) (h0 := h0) (t := 2) (N := 1001) C X (pm_S3R K0) m0 dX2_init_42 (by decide) rfl al2 (by decide) (by decide +kernel) (by decide +kernel) (moX2_init_b44 hf) ?_
  exact pm_sub [0, 1] rfl (bX2_init_44 C X ((m0.trans (pm_S3.le (pm_S3R K0))).trans (pm_Le_new _ _ _)) hf q nm)
set_option maxHeartbeats 4000000 in
set_option maxRecDepth 100000 in
theorem bX2_init_28 {g : pm_Gm} {l : Launch} {G : pm_Gl} {Qr : Option Value → pm_H → Prop} (C : pm_C g cX2_init RX2) {h0 h : pm_H} {x0 : Nat} {x1 : Nat} {s0 : Nat} {s1 : Nat} {r : pm_H} (X : pm_X g l G mX2_init (pm_sz r - pm_sz h0) (pm_us r - pm_us h0) Qr) (m0 : pm_Le h0 h) (hf : fX2_init_b28 h x0 x1 s0 s1 = some r) (q : Qr none r) (nm : g.2.2.2.2.2.2.2.2.1.name = "<init>") : pm_G g 28 [(0, .ref x0), (1, .ref x1)] [.ref s0, .ref s1] h (pm_sz h - pm_sz h0) (pm_us h - pm_us h0) := by
  have le0 := moX2_init_b28 hf
  have kc1 := Nat.sub_le_sub_right le0.1 (pm_sz h0)
  have kc2 := Nat.sub_le_sub_right le0.2 (pm_us h0)
  have K0 := pm_S3.rf h
  unfold fX2_init_b28 at hf
  obtain ⟨k4, hf⟩ := pm_if hf
  refine pm_putR C dX2_init_28 flX2_24 rfl rfl k4 ?_
  refine pm_aload_n C dX2_init_31 rfl rfl ?_
  refine pm_iconst (v := 0) C dX2_init_32 (by decide) ?_
  refine pa_newa (hb := h) (h0 := h0) (t := 0) (N := 0) C X (pm_S3R K0) m0 dX2_init_33 (by decide) rfl al0 (by decide) (by decide +kernel) (by decide +kernel) (moX2_init_b35 hf) ?_
  exact pm_sub [0, 1] rfl (bX2_init_35 C X ((m0.trans (pm_S3.le (pm_S3R K0))).trans (pm_Le_new _ _ _)) hf q nm)
set_option maxHeartbeats 4000000 in
set_option maxRecDepth 100000 in
theorem bX2_init_21 {g : pm_Gm} {l : Launch} {G : pm_Gl} {Qr : Option Value → pm_H → Prop} (C : pm_C g cX2_init RX2) {h0 h : pm_H} {x0 : Nat} {x1 : Nat} {s0 : Nat} {s1 : Nat} {r : pm_H} (X : pm_X g l G mX2_init (pm_sz r - pm_sz h0) (pm_us r - pm_us h0) Qr) (m0 : pm_Le h0 h) (hf : fX2_init_b21 h x0 x1 s0 s1 = some r) (q : Qr none r) (nm : g.2.2.2.2.2.2.2.2.1.name = "<init>") : pm_G g 21 [(0, .ref x0), (1, .ref x1)] [.ref s0, .ref s1] h (pm_sz h - pm_sz h0) (pm_us h - pm_us h0) := by
  have le0 := moX2_init_b21 hf
  have kc1 := Nat.sub_le_sub_right le0.1 (pm_sz h0)
  have kc2 := Nat.sub_le_sub_right le0.2 (pm_us h0)
  have K0 := pm_S3.rf h
  unfold fX2_init_b21 at hf
  obtain ⟨k3, hf⟩ := pm_if hf
  refine pm_putR C dX2_init_21 flX2_20 rfl rfl k3 ?_
  refine pm_aload_n C dX2_init_24 rfl rfl ?_
  refine pm_iconst (v := 0) C dX2_init_25 (by decide) ?_
  refine pa_newa (hb := h) (h0 := h0) (t := 2) (N := 0) C X (pm_S3R K0) m0 dX2_init_26 (by decide) rfl al2 (by decide) (by decide +kernel) (by decide +kernel) (moX2_init_b28 hf) ?_
  exact pm_sub [0, 1] rfl (bX2_init_28 C X ((m0.trans (pm_S3.le (pm_S3R K0))).trans (pm_Le_new _ _ _)) hf q nm)
set_option maxHeartbeats 4000000 in
set_option maxRecDepth 100000 in
theorem bX2_init_14 {g : pm_Gm} {l : Launch} {G : pm_Gl} {Qr : Option Value → pm_H → Prop} (C : pm_C g cX2_init RX2) {h0 h : pm_H} {x0 : Nat} {x1 : Nat} {s0 : Nat} {s1 : Nat} {r : pm_H} (X : pm_X g l G mX2_init (pm_sz r - pm_sz h0) (pm_us r - pm_us h0) Qr) (m0 : pm_Le h0 h) (hf : fX2_init_b14 h x0 x1 s0 s1 = some r) (q : Qr none r) (nm : g.2.2.2.2.2.2.2.2.1.name = "<init>") : pm_G g 14 [(0, .ref x0), (1, .ref x1)] [.ref s0, .ref s1] h (pm_sz h - pm_sz h0) (pm_us h - pm_us h0) := by
  have le0 := moX2_init_b14 hf
  have kc1 := Nat.sub_le_sub_right le0.1 (pm_sz h0)
  have kc2 := Nat.sub_le_sub_right le0.2 (pm_us h0)
  have K0 := pm_S3.rf h
  unfold fX2_init_b14 at hf
  obtain ⟨k2, hf⟩ := pm_if hf
  refine pm_putR C dX2_init_14 flX2_16 rfl rfl k2 ?_
  refine pm_aload_n C dX2_init_17 rfl rfl ?_
  refine pm_iconst (v := 0) C dX2_init_18 (by decide) ?_
  refine pa_newa (hb := h) (h0 := h0) (t := 3) (N := 0) C X (pm_S3R K0) m0 dX2_init_19 (by decide) rfl al3 (by decide) (by decide +kernel) (by decide +kernel) (moX2_init_b21 hf) ?_
  exact pm_sub [0, 1] rfl (bX2_init_21 C X ((m0.trans (pm_S3.le (pm_S3R K0))).trans (pm_Le_new _ _ _)) hf q nm)
set_option maxHeartbeats 4000000 in
set_option maxRecDepth 100000 in
theorem bX2_init_0 {g : pm_Gm} {l : Launch} {G : pm_Gl} {Qr : Option Value → pm_H → Prop} (C : pm_C g cX2_init RX2) {h0 h : pm_H} {x0 : Nat} {x1 : Nat} {r : pm_H} (X : pm_X g l G mX2_init (pm_sz r - pm_sz h0) (pm_us r - pm_us h0) Qr) (m0 : pm_Le h0 h) (hf : fX2_init_b0 h x0 x1 = some r) (q : Qr none r) (nm : g.2.2.2.2.2.2.2.2.1.name = "<init>") : pm_G g 0 [(0, .ref x0), (1, .ref x1)] [] h (pm_sz h - pm_sz h0) (pm_us h - pm_us h0) := by
  have le0 := moX2_init_b0 hf
  have kc1 := Nat.sub_le_sub_right le0.1 (pm_sz h0)
  have kc2 := Nat.sub_le_sub_right le0.2 (pm_us h0)
  have K0 := pm_S3.rf h
  unfold fX2_init_b0 at hf
  refine pm_aload_n C dX2_init_0 rfl rfl ?_
  refine pm_obj C X dX2_init_1 obX2_3 obI obC (by decide) (by decide) (Nat.le_of_ble_eq_true rfl) ?_
  refine pm_aload_n C dX2_init_4 rfl rfl ?_
  refine pm_ldc C dX2_init_5 cnX2_11 ?_
  obtain ⟨k1, hf⟩ := pm_if hf
  refine pm_putI C dX2_init_7 flX2_12 rfl rfl k1 rfl rfl ?_
  refine pm_aload_n C dX2_init_10 rfl rfl ?_
  refine pm_iconst (v := 0) C dX2_init_11 (by decide) ?_
  refine pa_newa (hb := h) (h0 := h0) (t := 2) (N := 0) C X (pm_S3I K0) m0 dX2_init_12 (by decide) rfl al2 (by decide) (by decide +kernel) (by decide +kernel) (moX2_init_b14 hf) ?_
  exact pm_sub [0, 1] rfl (bX2_init_14 C X ((m0.trans (pm_S3.le (pm_S3I K0))).trans (pm_Le_new _ _ _)) hf q nm)
set_option maxHeartbeats 4000000 in
set_option maxRecDepth 100000 in
theorem ctX2_init {l : Launch} {G : pm_Gl} {h : pm_H} {a0 : Nat} {p1 : Nat} {r : pm_H} {Qr : Option Value → pm_H → Prop} (hf : fX2_init h a0 p1 = some r) (q : Qr none r) : pm_Ct l G mX2_init [.ref a0, .ref p1] h (pm_sz r - pm_sz h) (pm_us r - pm_us h) Qr := by
  refine pm_bodyN pnX2 (Nat.le_of_ble_eq_true rfl) (fun g C X nm => ?_)
  have C : pm_C g cX2_init RX2 := C
  show pm_G g 0 [(0, .ref a0), (1, .ref p1)] [] h 0 0
  unfold fX2_init at hf
  exact pa_start (pm_sub [0, 1] rfl (bX2_init_0 C X (pm_Le.rf h) hf q nm))
theorem dX3_init_0 : decode cX3_init 0 = .ok (.aload_n 0, 1) := by decide +kernel
theorem dX3_init_1 : decode cX3_init 1 = .ok (.invokespecial 1, 3) := by decide +kernel
theorem dX3_init_4 : decode cX3_init 4 = .ok (.aload_n 0, 1) := by decide +kernel
theorem dX3_init_5 : decode cX3_init 5 = .ok (.aload_n 1, 1) := by decide +kernel
theorem dX3_init_6 : decode cX3_init 6 = .ok (.putfield 7, 3) := by decide +kernel
theorem dX3_init_9 : decode cX3_init 9 = .ok (.aload_n 0, 1) := by decide +kernel
theorem dX3_init_10 : decode cX3_init 10 = .ok (.aload_n 2, 1) := by decide +kernel
theorem dX3_init_11 : decode cX3_init 11 = .ok (.putfield 13, 3) := by decide +kernel
theorem dX3_init_14 : decode cX3_init 14 = .ok (.aload_n 0, 1) := by decide +kernel
theorem dX3_init_15 : decode cX3_init 15 = .ok (.aload_n 2, 1) := by decide +kernel
theorem dX3_init_16 : decode cX3_init 16 = .ok (.getfield 17, 3) := by decide +kernel
theorem dX3_init_19 : decode cX3_init 19 = .ok (.putfield 23, 3) := by decide +kernel
theorem dX3_init_22 : decode cX3_init 22 = .ok (.return_, 1) := by decide +kernel
def fX3_init (h : pm_H) (a0 : Nat) (p1 : Nat) (p2 : Nat) : Option pm_H := if pm_kd h a0 = 3 then if pm_kd (pm_setR (pm_setR h a0 0 (some p1)) a0 1 (some p2)) p2 = 0 then (pm_R (pm_setR (pm_setR h a0 0 (some p1)) a0 1 (some p2)) p2 1).bind fun v3 => some (pm_setR (pm_setR (pm_setR h a0 0 (some p1)) a0 1 (some p2)) a0 2 (some v3)) else none else none
set_option maxHeartbeats 4000000 in
set_option maxRecDepth 100000 in
theorem ctX3_init {l : Launch} {G : pm_Gl} {h : pm_H} {a0 : Nat} {p1 : Nat} {p2 : Nat} {r : pm_H} {Qr : Option Value → pm_H → Prop} (hf : fX3_init h a0 p1 p2 = some r) (q : Qr none r) : pm_Ct l G mX3_init [.ref a0, .ref p1, .ref p2] h 0 0 Qr := by
  refine pm_bodyN pnX3 (Nat.le_of_ble_eq_true rfl) (fun g C X nm => ?_)
  have C : pm_C g cX3_init RX3 := C
  show pm_G g 0 [(0, .ref a0), (1, .ref p1), (2, .ref p2)] [] h 0 0
  unfold fX3_init at hf
  refine pm_aload_n C dX3_init_0 rfl rfl ?_
  refine pm_obj C X dX3_init_1 obX3_1 obI obC (by decide) (by decide) (Nat.le_of_ble_eq_true rfl) ?_
  refine pm_aload_n C dX3_init_4 rfl rfl ?_
  refine pm_aload_n C dX3_init_5 rfl rfl ?_
  obtain ⟨k1, hf⟩ := pm_if hf
  refine pm_putR C dX3_init_6 flX3_7 rfl rfl k1 ?_
  refine pm_aload_n C dX3_init_9 rfl rfl ?_
  refine pm_aload_n C dX3_init_10 rfl rfl ?_
  refine pm_putR C dX3_init_11 flX3_13 rfl rfl k1 ?_
  refine pm_aload_n C dX3_init_14 rfl rfl ?_
  refine pm_aload_n C dX3_init_15 rfl rfl ?_
  obtain ⟨k2, hf⟩ := pm_if hf
  obtain ⟨v3, e4, hf⟩ := pm_bd hf
  refine pm_getR C dX3_init_16 flX3_17 rfl k2 e4 ?_
  refine pm_putR C dX3_init_19 flX3_23 rfl rfl k1 ?_
  cases hf
  exact pm_vret C X dX3_init_22 rfl (Nat.le_refl _) (Nat.le_refl _) q
set_option maxHeartbeats 4000000 in
set_option maxRecDepth 100000 in
theorem kpX3_init {h : pm_H} {a0 : Nat} {p1 : Nat} {p2 : Nat} {r : pm_H} (hf : fX3_init h a0 p1 p2 = some r) : pm_S3 r h := by
  unfold fX3_init at hf
  have K0 := pm_S3.rf h
  obtain ⟨k1, hf⟩ := pm_if hf
  obtain ⟨k2, hf⟩ := pm_if hf
  obtain ⟨v3, e4, hf⟩ := pm_bd hf
  cases hf
  exact K0
