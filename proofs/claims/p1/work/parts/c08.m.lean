theorem dX11_init_0 : decode cX11_init 0 = .ok (.aload_n 0, 1) := by decide +kernel
theorem dX11_init_1 : decode cX11_init 1 = .ok (.invokespecial 1, 3) := by decide +kernel
theorem dX11_init_4 : decode cX11_init 4 = .ok (.aload_n 0, 1) := by decide +kernel
theorem dX11_init_5 : decode cX11_init 5 = .ok (.sipush 1024, 3) := by decide +kernel
theorem dX11_init_8 : decode cX11_init 8 = .ok (.putfield 9, 3) := by decide +kernel
theorem dX11_init_11 : decode cX11_init 11 = .ok (.aload_n 0, 1) := by decide +kernel
theorem dX11_init_12 : decode cX11_init 12 = .ok (.bipush 32, 2) := by decide +kernel
theorem dX11_init_14 : decode cX11_init 14 = .ok (.newarray .int, 2) := by decide +kernel
theorem dX11_init_16 : decode cX11_init 16 = .ok (.putfield 13, 3) := by decide +kernel
theorem dX11_init_19 : decode cX11_init 19 = .ok (.aload_n 0, 1) := by decide +kernel
theorem dX11_init_20 : decode cX11_init 20 = .ok (.bipush 32, 2) := by decide +kernel
theorem dX11_init_22 : decode cX11_init 22 = .ok (.newarray .int, 2) := by decide +kernel
theorem dX11_init_24 : decode cX11_init 24 = .ok (.putfield 17, 3) := by decide +kernel
theorem dX11_init_27 : decode cX11_init 27 = .ok (.aload_n 0, 1) := by decide +kernel
theorem dX11_init_28 : decode cX11_init 28 = .ok (.bipush 32, 2) := by decide +kernel
theorem dX11_init_30 : decode cX11_init 30 = .ok (.newarray .long, 2) := by decide +kernel
theorem dX11_init_32 : decode cX11_init 32 = .ok (.putfield 20, 3) := by decide +kernel
theorem dX11_init_35 : decode cX11_init 35 = .ok (.aload_n 0, 1) := by decide +kernel
theorem dX11_init_36 : decode cX11_init 36 = .ok (.bipush 32, 2) := by decide +kernel
theorem dX11_init_38 : decode cX11_init 38 = .ok (.iconst 0, 1) := by decide +kernel
theorem dX11_init_39 : decode cX11_init 39 = .ok (.multianewarray 24 2, 4) := by decide +kernel
theorem dX11_init_43 : decode cX11_init 43 = .ok (.putfield 26, 3) := by decide +kernel
theorem dX11_init_46 : decode cX11_init 46 = .ok (.return_, 1) := by decide +kernel
def fX11_init_b43 (h : pm_H) (s0 : Nat) (s1 : Nat) : Option pm_H := if pm_kd h s1 = 11 then some (pm_setR h s1 5 (some s0)) else none
def fX11_init_b32 (h : pm_H) (x0 : Nat) (s0 : Nat) (s1 : Nat) : Option pm_H := if pm_kd h s1 = 11 then fX11_init_b43 (pm_ma (pm_setR h s1 4 (some s0)) 4 2 32 32) (pm_sz (pm_setR h s1 4 (some s0))) x0 else none
def fX11_init_b24 (h : pm_H) (x0 : Nat) (s0 : Nat) (s1 : Nat) : Option pm_H := if pm_kd h s1 = 11 then fX11_init_b32 (pm_new (pm_setR h s1 3 (some s0)) 35 32) x0 (pm_sz (pm_setR h s1 3 (some s0))) x0 else none
def fX11_init_b16 (h : pm_H) (x0 : Nat) (s0 : Nat) (s1 : Nat) : Option pm_H := if pm_kd h s1 = 11 then fX11_init_b24 (pm_new (pm_setR h s1 2 (some s0)) 34 32) x0 (pm_sz (pm_setR h s1 2 (some s0))) x0 else none
def fX11_init_b0 (h : pm_H) (x0 : Nat) : Option pm_H := if pm_kd h x0 = 11 then fX11_init_b16 (pm_new (pm_setI h x0 1 1024) 34 32) x0 (pm_sz (pm_setI h x0 1 1024)) x0 else none
def fX11_init (h : pm_H) (a0 : Nat) : Option pm_H := fX11_init_b0 h a0
set_option maxHeartbeats 4000000 in
set_option maxRecDepth 100000 in
theorem moX11_init_b43 {h : pm_H} {s0 : Nat} {s1 : Nat} {r : pm_H} (hf : fX11_init_b43 h s0 s1 = some r) : pm_Le h r := by
  unfold fX11_init_b43 at hf
  have K0 := pm_S3.rf h
  obtain ⟨k5, hf⟩ := pm_if hf
  have hf := Option.some.inj hf
  subst hf
  exact pm_S3.le (pm_S3R K0)
set_option maxHeartbeats 4000000 in
set_option maxRecDepth 100000 in
theorem moX11_init_b32 {h : pm_H} {x0 : Nat} {s0 : Nat} {s1 : Nat} {r : pm_H} (hf : fX11_init_b32 h x0 s0 s1 = some r) : pm_Le h r := by
  unfold fX11_init_b32 at hf
  have K0 := pm_S3.rf h
  obtain ⟨k4, hf⟩ := pm_if hf
  exact ((pm_S3.le (pm_S3R K0)).trans (pm_Le_ma _ _ _ _ _)).trans (moX11_init_b43 hf)
set_option maxHeartbeats 4000000 in
set_option maxRecDepth 100000 in
theorem moX11_init_b24 {h : pm_H} {x0 : Nat} {s0 : Nat} {s1 : Nat} {r : pm_H} (hf : fX11_init_b24 h x0 s0 s1 = some r) : pm_Le h r := by
  unfold fX11_init_b24 at hf
  have K0 := pm_S3.rf h
  obtain ⟨k3, hf⟩ := pm_if hf
  exact ((pm_S3.le (pm_S3R K0)).trans (pm_Le_new _ _ _)).trans (moX11_init_b32 hf)
set_option maxHeartbeats 4000000 in
set_option maxRecDepth 100000 in
theorem moX11_init_b16 {h : pm_H} {x0 : Nat} {s0 : Nat} {s1 : Nat} {r : pm_H} (hf : fX11_init_b16 h x0 s0 s1 = some r) : pm_Le h r := by
  unfold fX11_init_b16 at hf
  have K0 := pm_S3.rf h
  obtain ⟨k2, hf⟩ := pm_if hf
  exact ((pm_S3.le (pm_S3R K0)).trans (pm_Le_new _ _ _)).trans (moX11_init_b24 hf)
set_option maxHeartbeats 4000000 in
set_option maxRecDepth 100000 in
theorem moX11_init_b0 {h : pm_H} {x0 : Nat} {r : pm_H} (hf : fX11_init_b0 h x0 = some r) : pm_Le h r := by
  unfold fX11_init_b0 at hf
  have K0 := pm_S3.rf h
  obtain ⟨k1, hf⟩ := pm_if hf
  exact ((pm_S3.le (pm_S3I K0)).trans (pm_Le_new _ _ _)).trans (moX11_init_b16 hf)
set_option maxHeartbeats 4000000 in
set_option maxRecDepth 100000 in
theorem moX11_init {h : pm_H} {a0 : Nat} {r : pm_H} (hf : fX11_init h a0 = some r) : pm_Le h r := by
  unfold fX11_init at hf
  have K0 := pm_S3.rf h
  exact (pm_S3.le K0).trans (moX11_init_b0 hf)
set_option maxHeartbeats 4000000 in
set_option maxRecDepth 100000 in
theorem bX11_init_43 {g : pm_Gm} {l : Launch} {G : pm_Gl} {Qr : Option Value → pm_H → Prop} (C : pm_C g cX11_init RX11) {h0 h : pm_H} {s0 : Nat} {s1 : Nat} {r : pm_H} (X : pm_X g l G mX11_init (pm_sz r - pm_sz h0) (pm_us r - pm_us h0) Qr) (m0 : pm_Le h0 h) (hf : fX11_init_b43 h s0 s1 = some r) (q : Qr none r) (nm : g.2.2.2.2.2.2.2.2.1.name = "<init>") : pm_G g 43 [] [.ref s0, .ref s1] h (pm_sz h - pm_sz h0) (pm_us h - pm_us h0) := by
  have le0 := moX11_init_b43 hf
  have kc1 := Nat.sub_le_sub_right le0.1 (pm_sz h0)
  have kc2 := Nat.sub_le_sub_right le0.2 (pm_us h0)
  have K0 := pm_S3.rf h
  unfold fX11_init_b43 at hf
  obtain ⟨k5, hf⟩ := pm_if hf
  refine pm_putRF C dX11_init_43 flX11_26 rfl nm rfl fwX11_26 rfl k5 ?_
  have hf := Option.some.inj hf
  subst hf
  exact pm_vret C X dX11_init_46 rfl kc1 kc2 q
set_option maxHeartbeats 4000000 in
set_option maxRecDepth 100000 in
theorem bX11_init_32 {g : pm_Gm} {l : Launch} {G : pm_Gl} {Qr : Option Value → pm_H → Prop} (C : pm_C g cX11_init RX11) {h0 h : pm_H} {x0 : Nat} {s0 : Nat} {s1 : Nat} {r : pm_H} (X : pm_X g l G mX11_init (pm_sz r - pm_sz h0) (pm_us r - pm_us h0) Qr) (m0 : pm_Le h0 h) (hf : fX11_init_b32 h x0 s0 s1 = some r) (q : Qr none r) (nm : g.2.2.2.2.2.2.2.2.1.name = "<init>") : pm_G g 32 [(0, .ref x0)] [.ref s0, .ref s1] h (pm_sz h - pm_sz h0) (pm_us h - pm_us h0) := by
  have le0 := moX11_init_b32 hf
  have kc1 := Nat.sub_le_sub_right le0.1 (pm_sz h0)
  have kc2 := Nat.sub_le_sub_right le0.2 (pm_us h0)
  have K0 := pm_S3.rf h
  unfold fX11_init_b32 at hf
  obtain ⟨k4, hf⟩ := pm_if hf
  refine pm_putRF C dX11_init_32 flX11_20 rfl nm rfl fwX11_20 rfl k4 ?_
  refine pm_aload_n C dX11_init_35 rfl rfl ?_
  refine pm_bipush (v := 32) C dX11_init_36 (by decide) ?_
  refine pm_iconst (v := 0) C dX11_init_38 (by decide) ?_
  refine pa_mna (hb := h) (h0 := h0) (t := 4) (u := 2) (N := 32) C X (pm_S3R K0) m0 dX11_init_39 (Or.inl ⟨rfl, rfl⟩) cmX11_24 al2 (by decide) (by decide +kernel) (by decide +kernel) (moX11_init_b43 hf) ?_
  exact pm_sub [] rfl (bX11_init_43 C X ((m0.trans (pm_S3.le (pm_S3R K0))).trans (pm_Le_ma _ _ _ _ _)) hf q nm)
set_option maxHeartbeats 4000000 in
set_option maxRecDepth 100000 in
theorem bX11_init_24 {g : pm_Gm} {l : Launch} {G : pm_Gl} {Qr : Option Value → pm_H → Prop} (C : pm_C g cX11_init RX11) {h0 h : pm_H} {x0 : Nat} {s0 : Nat} {s1 : Nat} {r : pm_H} (X : pm_X g l G mX11_init (pm_sz r - pm_sz h0) (pm_us r - pm_us h0) Qr) (m0 : pm_Le h0 h) (hf : fX11_init_b24 h x0 s0 s1 = some r) (q : Qr none r) (nm : g.2.2.2.2.2.2.2.2.1.name = "<init>") : pm_G g 24 [(0, .ref x0)] [.ref s0, .ref s1] h (pm_sz h - pm_sz h0) (pm_us h - pm_us h0) := by
  have le0 := moX11_init_b24 hf
  have kc1 := Nat.sub_le_sub_right le0.1 (pm_sz h0)
  have kc2 := Nat.sub_le_sub_right le0.2 (pm_us h0)
  have K0 := pm_S3.rf h
  unfold fX11_init_b24 at hf
  obtain ⟨k3, hf⟩ := pm_if hf
  refine pm_putRF C dX11_init_24 flX11_17 rfl nm rfl fwX11_17 rfl k3 ?_
  refine pm_aload_n C dX11_init_27 rfl rfl ?_
  refine pm_bipush (v := 32) C dX11_init_28 (by decide) ?_
  refine pa_newa (hb := h) (h0 := h0) (t := 3) (N := 32) C X (pm_S3R K0) m0 dX11_init_30 (by decide) rfl al3 (by decide) (by decide +kernel) (by decide +kernel) (moX11_init_b32 hf) ?_
  exact pm_sub [0] rfl (bX11_init_32 C X ((m0.trans (pm_S3.le (pm_S3R K0))).trans (pm_Le_new _ _ _)) hf q nm)
set_option maxHeartbeats 4000000 in
set_option maxRecDepth 100000 in
theorem bX11_init_16 {g : pm_Gm} {l : Launch} {G : pm_Gl} {Qr : Option Value → pm_H → Prop} (C : pm_C g cX11_init RX11) {h0 h : pm_H} {x0 : Nat} {s0 : Nat} {s1 : Nat} {r : pm_H} (X : pm_X g l G mX11_init (pm_sz r - pm_sz h0) (pm_us r - pm_us h0) Qr) (m0 : pm_Le h0 h) (hf : fX11_init_b16 h x0 s0 s1 = some r) (q : Qr none r) (nm : g.2.2.2.2.2.2.2.2.1.name = "<init>") : pm_G g 16 [(0, .ref x0)] [.ref s0, .ref s1] h (pm_sz h - pm_sz h0) (pm_us h - pm_us h0) := by
  have le0 := moX11_init_b16 hf
  have kc1 := Nat.sub_le_sub_right le0.1 (pm_sz h0)
  have kc2 := Nat.sub_le_sub_right le0.2 (pm_us h0)
  have K0 := pm_S3.rf h
  unfold fX11_init_b16 at hf
  obtain ⟨k2, hf⟩ := pm_if hf
  refine pm_putRF C dX11_init_16 flX11_13 rfl nm rfl fwX11_13 rfl k2 ?_
  refine pm_aload_n C dX11_init_19 rfl rfl ?_
  refine pm_bipush (v := 32) C dX11_init_20 (by decide) ?_
  refine pa_newa (hb := h) (h0 := h0) (t := 2) (N := 32) C X (pm_S3R K0) m0 dX11_init_22 (by decide) rfl al2 (by decide) (by decide +kernel) (by decide +kernel) (moX11_init_b24 hf) ?_
  exact pm_sub [0] rfl (bX11_init_24 C X ((m0.trans (pm_S3.le (pm_S3R K0))).trans (pm_Le_new _ _ _)) hf q nm)
set_option maxHeartbeats 4000000 in
set_option maxRecDepth 100000 in
theorem bX11_init_0 {g : pm_Gm} {l : Launch} {G : pm_Gl} {Qr : Option Value → pm_H → Prop} (C : pm_C g cX11_init RX11) {h0 h : pm_H} {x0 : Nat} {r : pm_H} (X : pm_X g l G mX11_init (pm_sz r - pm_sz h0) (pm_us r - pm_us h0) Qr) (m0 : pm_Le h0 h) (hf : fX11_init_b0 h x0 = some r) (q : Qr none r) (nm : g.2.2.2.2.2.2.2.2.1.name = "<init>") : pm_G g 0 [(0, .ref x0)] [] h (pm_sz h - pm_sz h0) (pm_us h - pm_us h0) := by
  have le0 := moX11_init_b0 hf
  have kc1 := Nat.sub_le_sub_right le0.1 (pm_sz h0)
  have kc2 := Nat.sub_le_sub_right le0.2 (pm_us h0)
  have K0 := pm_S3.rf h
  unfold fX11_init_b0 at hf
  refine pm_aload_n C dX11_init_0 rfl rfl ?_
  refine pm_obj C X dX11_init_1 obX11_1 obI obC (by decide) (by decide) (Nat.le_of_ble_eq_true rfl) ?_
  refine pm_aload_n C dX11_init_4 rfl rfl ?_
  refine pm_sipush (v := 1024) C dX11_init_5 (by decide) ?_
  obtain ⟨k1, hf⟩ := pm_if hf
  refine pm_putI C dX11_init_8 flX11_9 rfl rfl k1 rfl rfl ?_
  refine pm_aload_n C dX11_init_11 rfl rfl ?_
  refine pm_bipush (v := 32) C dX11_init_12 (by decide) ?_
  refine pa_newa (hb := h) (h0 := h0) (t := 2) (N := 32) C X (pm_S3I K0) m0 dX11_init_14 (by decide) rfl al2 (by decide) (by decide +kernel) (by decide +kernel) (moX11_init_b16 hf) ?_
  exact pm_sub [0] rfl (bX11_init_16 C X ((m0.trans (pm_S3.le (pm_S3I K0))).trans (pm_Le_new _ _ _)) hf q nm)
set_option maxHeartbeats 4000000 in
set_option maxRecDepth 100000 in
theorem ctX11_init {l : Launch} {G : pm_Gl} {h : pm_H} {a0 : Nat} {r : pm_H} {Qr : Option Value → pm_H → Prop} (hf : fX11_init h a0 = some r) (q : Qr none r) : pm_Ct l G mX11_init [.ref a0] h (pm_sz r - pm_sz h) (pm_us r - pm_us h) Qr := by
  refine pm_bodyN pnX11 (Nat.le_of_ble_eq_true rfl) (fun g C X nm => ?_)
  have C : pm_C g cX11_init RX11 := C
  show pm_G g 0 [(0, .ref a0)] [] h 0 0
  unfold fX11_init at hf
  exact pa_start (pm_sub [0] rfl (bX11_init_0 C X (pm_Le.rf h) hf q nm))
theorem dX9_advance_0 : decode cX9_advance 0 = .ok (.aload_n 0, 1) := by decide +kernel
theorem dX9_advance_1 : decode cX9_advance 1 = .ok (.getfield 34, 3) := by decide +kernel
theorem dX9_advance_4 : decode cX9_advance 4 = .ok (.ifCond .ge 10, 3) := by decide +kernel
theorem dX9_advance_7 : decode cX9_advance 7 = .ok (.aload_n 0, 1) := by decide +kernel
theorem dX9_advance_8 : decode cX9_advance 8 = .ok (.invokevirtual 108, 3) := by decide +kernel
theorem dX9_advance_11 : decode cX9_advance 11 = .ok (.goto 127, 3) := by decide +kernel
theorem dX9_advance_14 : decode cX9_advance 14 = .ok (.aload_n 0, 1) := by decide +kernel
theorem dX9_advance_15 : decode cX9_advance 15 = .ok (.getfield 34, 3) := by decide +kernel
theorem dX9_advance_18 : decode cX9_advance 18 = .ok (.tableswitch 100 1 11 #[58, 65, 100, 100, 100, 100, 72, 100, 79, 86, 93], 58) := by decide +kernel
theorem dX9_advance_76 : decode cX9_advance 76 = .ok (.aload_n 0, 1) := by decide +kernel
theorem dX9_advance_77 : decode cX9_advance 77 = .ok (.invokevirtual 111, 3) := by decide +kernel
theorem dX9_advance_80 : decode cX9_advance 80 = .ok (.goto 48, 3) := by decide +kernel
theorem dX9_advance_83 : decode cX9_advance 83 = .ok (.aload_n 0, 1) := by decide +kernel
theorem dX9_advance_84 : decode cX9_advance 84 = .ok (.invokevirtual 114, 3) := by decide +kernel
theorem dX9_advance_87 : decode cX9_advance 87 = .ok (.goto 41, 3) := by decide +kernel
theorem dX9_advance_90 : decode cX9_advance 90 = .ok (.aload_n 0, 1) := by decide +kernel
theorem dX9_advance_91 : decode cX9_advance 91 = .ok (.invokevirtual 117, 3) := by decide +kernel
theorem dX9_advance_94 : decode cX9_advance 94 = .ok (.goto 34, 3) := by decide +kernel
theorem dX9_advance_97 : decode cX9_advance 97 = .ok (.aload_n 0, 1) := by decide +kernel
theorem dX9_advance_98 : decode cX9_advance 98 = .ok (.invokevirtual 120, 3) := by decide +kernel
theorem dX9_advance_101 : decode cX9_advance 101 = .ok (.goto 27, 3) := by decide +kernel
theorem dX9_advance_104 : decode cX9_advance 104 = .ok (.aload_n 0, 1) := by decide +kernel
theorem dX9_advance_105 : decode cX9_advance 105 = .ok (.invokevirtual 123, 3) := by decide +kernel
theorem dX9_advance_108 : decode cX9_advance 108 = .ok (.goto 20, 3) := by decide +kernel
theorem dX9_advance_111 : decode cX9_advance 111 = .ok (.aload_n 0, 1) := by decide +kernel
theorem dX9_advance_112 : decode cX9_advance 112 = .ok (.invokevirtual 126, 3) := by decide +kernel
theorem dX9_advance_115 : decode cX9_advance 115 = .ok (.goto 13, 3) := by decide +kernel
theorem dX9_advance_118 : decode cX9_advance 118 = .ok (.aload_n 0, 1) := by decide +kernel
theorem dX9_advance_119 : decode cX9_advance 119 = .ok (.aload_n 0, 1) := by decide +kernel
theorem dX9_advance_120 : decode cX9_advance 120 = .ok (.getfield 34, 3) := by decide +kernel
theorem dX9_advance_123 : decode cX9_advance 123 = .ok (.iconst 3, 1) := by decide +kernel
theorem dX9_advance_124 : decode cX9_advance 124 = .ok (.isub, 1) := by decide +kernel
theorem dX9_advance_125 : decode cX9_advance 125 = .ok (.invokevirtual 129, 3) := by decide +kernel
theorem dX9_advance_128 : decode cX9_advance 128 = .ok (.aload_n 0, 1) := by decide +kernel
theorem dX9_advance_129 : decode cX9_advance 129 = .ok (.dup, 1) := by decide +kernel
theorem dX9_advance_130 : decode cX9_advance 130 = .ok (.getfield 133, 3) := by decide +kernel
theorem dX9_advance_133 : decode cX9_advance 133 = .ok (.iconst 1, 1) := by decide +kernel
theorem dX9_advance_134 : decode cX9_advance 134 = .ok (.iadd, 1) := by decide +kernel
theorem dX9_advance_135 : decode cX9_advance 135 = .ok (.putfield 133, 3) := by decide +kernel
theorem dX9_advance_138 : decode cX9_advance 138 = .ok (.aload_n 0, 1) := by decide +kernel
theorem dX9_advance_139 : decode cX9_advance 139 = .ok (.getfield 34, 3) := by decide +kernel
theorem dX9_advance_142 : decode cX9_advance 142 = .ok (.ifCond .lt 20, 3) := by decide +kernel
theorem dX9_advance_145 : decode cX9_advance 145 = .ok (.aload_n 0, 1) := by decide +kernel
theorem dX9_advance_146 : decode cX9_advance 146 = .ok (.getfield 133, 3) := by decide +kernel
theorem dX9_advance_149 : decode cX9_advance 149 = .ok (.i2l, 1) := by decide +kernel
theorem dX9_advance_150 : decode cX9_advance 150 = .ok (.aload_n 0, 1) := by decide +kernel
theorem dX9_advance_151 : decode cX9_advance 151 = .ok (.getfield 136, 3) := by decide +kernel
theorem dX9_advance_154 : decode cX9_advance 154 = .ok (.lcmp, 1) := by decide +kernel
theorem dX9_advance_155 : decode cX9_advance 155 = .ok (.ifCond .lt 7, 3) := by decide +kernel
theorem dX9_advance_158 : decode cX9_advance 158 = .ok (.aload_n 0, 1) := by decide +kernel
theorem dX9_advance_159 : decode cX9_advance 159 = .ok (.invokevirtual 139, 3) := by decide +kernel
theorem dX9_advance_162 : decode cX9_advance 162 = .ok (.return_, 1) := by decide +kernel
noncomputable def fX9_advance_b162 (h : pm_H)  : Option pm_H := some h
noncomputable def fX9_advance_b138 (h : pm_H) (x0 : Nat) : Option pm_H := if pm_kd h x0 = 9 then if (pm_I h x0 10) < 0 then (fX9_advance_b162 h) else (if ((pm_I h x0 15).toInt64) < (pm_L h x0 14) then (fX9_advance_b162 h) else ((fX9_closeSection h x0).bind fun v45 => fX9_advance_b162 v45)) else none
noncomputable def fX9_advance_b128 (h : pm_H) (x0 : Nat) : Option pm_H := if pm_kd h x0 = 9 then pm_let ((pm_I h x0 15) + 1) fun y36 => fX9_advance_b138 (pm_setI h x0 15 y36) x0 else none
noncomputable def fX9_advance_b118 (h : pm_H) (x0 : Nat) : Option pm_H := if pm_kd h x0 = 9 then (fX9_own h x0 ((pm_I h x0 10) - 3)).bind fun v39 => fX9_advance_b128 v39 x0 else none
noncomputable def fX9_advance_b80 (h : pm_H) (x0 : Nat) : Option pm_H := fX9_advance_b128 h x0
noncomputable def fX9_advance_b11 (h : pm_H) (x0 : Nat) : Option pm_H := fX9_advance_b138 h x0
noncomputable def fX9_advance_b0 (h : pm_H) (x0 : Nat) : Option pm_H := if pm_kd h x0 = 9 then if 0 ≤ (pm_I h x0 10) then (pm_let (pm_I h x0 10) fun y3 => if y3 = 1 then ((fX9_functionType h x0).bind fun v6 => fX9_advance_b80 v6 x0) else (if y3 = 2 then ((fX9_importOne h x0).bind fun v9 => fX9_advance_b128 v9 x0) else (if y3 = 3 then (fX9_advance_b118 h x0) else (if y3 = 4 then (fX9_advance_b118 h x0) else (if y3 = 5 then (fX9_advance_b118 h x0) else (if y3 = 6 then (fX9_advance_b118 h x0) else (if y3 = 7 then ((fX9_exportOne h x0).bind fun v17 => fX9_advance_b128 v17 x0) else (if y3 = 8 then (fX9_advance_b118 h x0) else (if y3 = 9 then ((fX9_element h x0).bind fun v22 => fX9_advance_b128 v22 x0) else (if y3 = 10 then ((fX9_body h x0).bind fun v26 => fX9_advance_b128 v26 x0) else (if y3 = 11 then ((fX9_dataOne h x0).bind fun v30 => fX9_advance_b128 v30 x0) else (fX9_advance_b118 h x0)))))))))))) else ((fX9_openSection h x0).bind fun v33 => fX9_advance_b11 v33 x0) else none
noncomputable def fX9_advance (h : pm_H) (a0 : Nat) : Option pm_H := fX9_advance_b0 h a0
set_option maxHeartbeats 4000000 in
set_option maxRecDepth 100000 in
theorem moX9_advance_b162 {h : pm_H}  {r : pm_H} (hf : fX9_advance_b162 h  = some r) : pm_Le h r := by
  unfold fX9_advance_b162 at hf
  have K0 := pm_S3.rf h
  have hf := Option.some.inj hf
  subst hf
  exact pm_S3.le K0
set_option maxHeartbeats 4000000 in
set_option maxRecDepth 100000 in
theorem moX9_advance_b138 {h : pm_H} {x0 : Nat} {r : pm_H} (hf : fX9_advance_b138 h x0 = some r) : pm_Le h r := by
  unfold fX9_advance_b138 at hf
  have K0 := pm_S3.rf h
  obtain ⟨k42, hf⟩ := pm_if hf
  by_cases c43 : (pm_I h x0 10) < 0
  · have hf := pm_it hf c43
    exact (pm_S3.le K0).trans (moX9_advance_b162 hf)
  · have hf := pm_ie hf c43
    by_cases c44 : ((pm_I h x0 15).toInt64) < (pm_L h x0 14)
    · have hf := pm_it hf c44
      exact (pm_S3.le K0).trans (moX9_advance_b162 hf)
    · have hf := pm_ie hf c44
      obtain ⟨v45, e46, hf⟩ := pm_bd hf
      exact ((pm_S3.le K0).trans (moX9_closeSection e46)).trans (moX9_advance_b162 hf)
set_option maxHeartbeats 4000000 in
set_option maxRecDepth 100000 in
theorem moX9_advance_b128 {h : pm_H} {x0 : Nat} {r : pm_H} (hf : fX9_advance_b128 h x0 = some r) : pm_Le h r := by
  unfold fX9_advance_b128 at hf
  have K0 := pm_S3.rf h
  obtain ⟨k35, hf⟩ := pm_if hf
  obtain ⟨y36, e37, hf⟩ := pm_lt hf
  exact (pm_S3.le (pm_S3I K0)).trans (moX9_advance_b138 hf)
set_option maxHeartbeats 4000000 in
set_option maxRecDepth 100000 in
theorem moX9_advance_b118 {h : pm_H} {x0 : Nat} {r : pm_H} (hf : fX9_advance_b118 h x0 = some r) : pm_Le h r := by
  unfold fX9_advance_b118 at hf
  have K0 := pm_S3.rf h
  obtain ⟨k38, hf⟩ := pm_if hf
  obtain ⟨v39, e40, hf⟩ := pm_bd hf
  have K41 := pm_S3.trans (kpX9_own e40) K0
  exact (pm_S3.le K41).trans (moX9_advance_b128 hf)
set_option maxHeartbeats 4000000 in
set_option maxRecDepth 100000 in
theorem moX9_advance_b80 {h : pm_H} {x0 : Nat} {r : pm_H} (hf : fX9_advance_b80 h x0 = some r) : pm_Le h r := by
  unfold fX9_advance_b80 at hf
  have K0 := pm_S3.rf h
  exact (pm_S3.le K0).trans (moX9_advance_b128 hf)
set_option maxHeartbeats 4000000 in
set_option maxRecDepth 100000 in
theorem moX9_advance_b11 {h : pm_H} {x0 : Nat} {r : pm_H} (hf : fX9_advance_b11 h x0 = some r) : pm_Le h r := by
  unfold fX9_advance_b11 at hf
  have K0 := pm_S3.rf h
  exact (pm_S3.le K0).trans (moX9_advance_b138 hf)
set_option maxHeartbeats 4000000 in
set_option maxRecDepth 100000 in
theorem moX9_advance_b0 {h : pm_H} {x0 : Nat} {r : pm_H} (hf : fX9_advance_b0 h x0 = some r) : pm_Le h r := by
  unfold fX9_advance_b0 at hf
  have K0 := pm_S3.rf h
  obtain ⟨k1, hf⟩ := pm_if hf
  by_cases c2 : 0 ≤ (pm_I h x0 10)
  · have hf := pm_it hf c2
    obtain ⟨y3, e4, hf⟩ := pm_lt hf
    by_cases c5 : y3 = 1
    · have hf := pm_it hf c5
      obtain ⟨v6, e7, hf⟩ := pm_bd hf
      exact ((pm_S3.le K0).trans (moX9_functionType e7)).trans (moX9_advance_b80 hf)
    have hf := pm_ie hf c5
    by_cases c8 : y3 = 2
    · have hf := pm_it hf c8
      obtain ⟨v9, e10, hf⟩ := pm_bd hf
      have K11 := pm_S3.trans (kpX9_importOne e10) K0
      exact (pm_S3.le K11).trans (moX9_advance_b128 hf)
    have hf := pm_ie hf c8
    by_cases c12 : y3 = 3
    · have hf := pm_it hf c12
      exact (pm_S3.le K0).trans (moX9_advance_b118 hf)
    have hf := pm_ie hf c12
    by_cases c13 : y3 = 4
    · have hf := pm_it hf c13
      exact (pm_S3.le K0).trans (moX9_advance_b118 hf)
    have hf := pm_ie hf c13
    by_cases c14 : y3 = 5
    · have hf := pm_it hf c14
      exact (pm_S3.le K0).trans (moX9_advance_b118 hf)
    have hf := pm_ie hf c14
    by_cases c15 : y3 = 6
    · have hf := pm_it hf c15
      exact (pm_S3.le K0).trans (moX9_advance_b118 hf)
    have hf := pm_ie hf c15
    by_cases c16 : y3 = 7
    · have hf := pm_it hf c16
      obtain ⟨v17, e18, hf⟩ := pm_bd hf
      have K19 := pm_S3.trans (kpX9_exportOne e18) K0
      exact (pm_S3.le K19).trans (moX9_advance_b128 hf)
    have hf := pm_ie hf c16
    by_cases c20 : y3 = 8
    · have hf := pm_it hf c20
      exact (pm_S3.le K0).trans (moX9_advance_b118 hf)
    have hf := pm_ie hf c20
    by_cases c21 : y3 = 9
    · have hf := pm_it hf c21
      obtain ⟨v22, e23, hf⟩ := pm_bd hf
      have K24 := pm_S3.trans (kpX9_element e23) K0
      exact (pm_S3.le K24).trans (moX9_advance_b128 hf)
    have hf := pm_ie hf c21
    by_cases c25 : y3 = 10
    · have hf := pm_it hf c25
      obtain ⟨v26, e27, hf⟩ := pm_bd hf
      have K28 := pm_S3.trans (kpX9_body e27) K0
      exact (pm_S3.le K28).trans (moX9_advance_b128 hf)
    have hf := pm_ie hf c25
    by_cases c29 : y3 = 11
    · have hf := pm_it hf c29
      obtain ⟨v30, e31, hf⟩ := pm_bd hf
      have K32 := pm_S3.trans (kpX9_dataOne e31) K0
      exact (pm_S3.le K32).trans (moX9_advance_b128 hf)
    have hf := pm_ie hf c29
    exact (pm_S3.le K0).trans (moX9_advance_b118 hf)
  · have hf := pm_ie hf c2
    obtain ⟨v33, e34, hf⟩ := pm_bd hf
    exact ((pm_S3.le K0).trans (moX9_openSection e34)).trans (moX9_advance_b11 hf)
set_option maxHeartbeats 4000000 in
set_option maxRecDepth 100000 in
theorem moX9_advance {h : pm_H} {a0 : Nat} {r : pm_H} (hf : fX9_advance h a0 = some r) : pm_Le h r := by
  unfold fX9_advance at hf
  have K0 := pm_S3.rf h
  exact (pm_S3.le K0).trans (moX9_advance_b0 hf)
set_option maxHeartbeats 4000000 in
set_option maxRecDepth 100000 in
theorem bX9_advance_162 {g : pm_Gm} {l : Launch} {G : pm_Gl} {Qr : Option Value → pm_H → Prop} (C : pm_C g cX9_advance RX9) {h0 h : pm_H}  {r : pm_H} (X : pm_X g l G mX9_advance (pm_sz r - pm_sz h0) (pm_us r - pm_us h0) Qr) (m0 : pm_Le h0 h) (hf : fX9_advance_b162 h  = some r) (q : Qr none r) : pm_G g 162 [] [] h (pm_sz h - pm_sz h0) (pm_us h - pm_us h0) := by
  have le0 := moX9_advance_b162 hf
  have kc1 := Nat.sub_le_sub_right le0.1 (pm_sz h0)
  have kc2 := Nat.sub_le_sub_right le0.2 (pm_us h0)
  have K0 := pm_S3.rf h
  unfold fX9_advance_b162 at hf
  have hf := Option.some.inj hf
  subst hf
  exact pm_vret C X dX9_advance_162 rfl kc1 kc2 q
set_option maxHeartbeats 4000000 in
set_option maxRecDepth 100000 in
theorem bX9_advance_138 {g : pm_Gm} {l : Launch} {G : pm_Gl} {Qr : Option Value → pm_H → Prop} (C : pm_C g cX9_advance RX9) {h0 h : pm_H} {x0 : Nat} {r : pm_H} (X : pm_X g l G mX9_advance (pm_sz r - pm_sz h0) (pm_us r - pm_us h0) Qr) (m0 : pm_Le h0 h) (hf : fX9_advance_b138 h x0 = some r) (q : Qr none r) : pm_G g 138 [(0, .ref x0)] [] h (pm_sz h - pm_sz h0) (pm_us h - pm_us h0) := by
  have le0 := moX9_advance_b138 hf
  have kc1 := Nat.sub_le_sub_right le0.1 (pm_sz h0)
  have kc2 := Nat.sub_le_sub_right le0.2 (pm_us h0)
  have K0 := pm_S3.rf h
  unfold fX9_advance_b138 at hf
  refine pm_aload_n C dX9_advance_138 rfl rfl ?_
  obtain ⟨k42, hf⟩ := pm_if hf
  refine pm_getI C dX9_advance_139 flX9_34 rfl k42 rfl ?_
  refine pm_if_lt (tgt := 162) C dX9_advance_142 (by decide) (fun c43 => ?_) (fun c43 => ?_)
  · have hf := pm_it hf c43
    exact pa_join K0 (pm_sub [] rfl (bX9_advance_162 C X (m0.trans (pm_S3.le K0)) hf q))
  · have hf := pm_ie hf c43
    refine pm_aload_n C dX9_advance_145 rfl rfl ?_
    refine pm_getI C dX9_advance_146 flX9_133 rfl k42 rfl ?_
    refine pm_i2l C dX9_advance_149 ?_
    refine pm_aload_n C dX9_advance_150 rfl rfl ?_
    refine pm_getL C dX9_advance_151 flX9_136 rfl k42 rfl ?_
    refine pm_lcmp C dX9_advance_154 ?_
    refine pm_if_lt (tgt := 162) C dX9_advance_155 (by decide) (fun c44 => ?_) (fun c44 => ?_)
    · have hf := pm_it hf ((pm_lg_lt _ _).mp c44)
      exact pa_join K0 (pm_sub [] rfl (bX9_advance_162 C X (m0.trans (pm_S3.le K0)) hf q))
    · have hf := pm_ie hf ((fun z => c44 ((pm_lg_lt _ _).mpr z)))
      refine pm_aload_n C dX9_advance_158 rfl rfl ?_
      obtain ⟨v45, e46, hf⟩ := pm_bd hf
      refine pm_callV (as := []) (st := []) C X dX9_advance_159 lnX9_139 myX9_closeSection viX9_closeSection ⟨by decide, by decide⟩ rfl rfl k42 (Nat.le_of_ble_eq_true rfl) (pa_le1 K0 m0 (moX9_closeSection e46) (moX9_advance_b162 hf)) (pa_le2 K0 m0 (moX9_closeSection e46) (moX9_advance_b162 hf)) (ctX9_closeSection e46 ?_)
      show pm_G g 162 [(0, .ref x0)] [] v45 (pm_sz h - pm_sz h0 + (pm_sz v45 - pm_sz h)) (pm_us h - pm_us h0 + (pm_us v45 - pm_us h))
      refine pa_fin K0 m0 (moX9_closeSection e46) ?_
      exact pm_sub [] rfl (bX9_advance_162 C X ((m0.trans (pm_S3.le K0)).trans (moX9_closeSection e46)) hf q)
set_option maxHeartbeats 4000000 in
set_option maxRecDepth 100000 in
theorem bX9_advance_128 {g : pm_Gm} {l : Launch} {G : pm_Gl} {Qr : Option Value → pm_H → Prop} (C : pm_C g cX9_advance RX9) {h0 h : pm_H} {x0 : Nat} {r : pm_H} (X : pm_X g l G mX9_advance (pm_sz r - pm_sz h0) (pm_us r - pm_us h0) Qr) (m0 : pm_Le h0 h) (hf : fX9_advance_b128 h x0 = some r) (q : Qr none r) : pm_G g 128 [(0, .ref x0)] [] h (pm_sz h - pm_sz h0) (pm_us h - pm_us h0) := by
  have le0 := moX9_advance_b128 hf
  have kc1 := Nat.sub_le_sub_right le0.1 (pm_sz h0)
  have kc2 := Nat.sub_le_sub_right le0.2 (pm_us h0)
  have K0 := pm_S3.rf h
  unfold fX9_advance_b128 at hf
  refine pm_aload_n C dX9_advance_128 rfl rfl ?_
  refine pm_dup C dX9_advance_129 rfl ?_
  obtain ⟨k35, hf⟩ := pm_if hf
  refine pm_getI C dX9_advance_130 flX9_133 rfl k35 rfl ?_
  refine pm_iconst (v := 1) C dX9_advance_133 (by decide) ?_
  refine pm_iadd C dX9_advance_134 ?_
  obtain ⟨y36, e37, hf⟩ := pm_lt hf
  refine pm_topI e37 ?_
  refine pm_putI C dX9_advance_135 flX9_133 rfl rfl k35 rfl rfl ?_
  exact pa_join (pm_S3I K0) (pm_sub [0] rfl (bX9_advance_138 C X (m0.trans (pm_S3.le (pm_S3I K0))) hf q))
set_option maxHeartbeats 4000000 in
set_option maxRecDepth 100000 in
theorem bX9_advance_118 {g : pm_Gm} {l : Launch} {G : pm_Gl} {Qr : Option Value → pm_H → Prop} (C : pm_C g cX9_advance RX9) {h0 h : pm_H} {x0 : Nat} {r : pm_H} (X : pm_X g l G mX9_advance (pm_sz r - pm_sz h0) (pm_us r - pm_us h0) Qr) (m0 : pm_Le h0 h) (hf : fX9_advance_b118 h x0 = some r) (q : Qr none r) : pm_G g 118 [(0, .ref x0)] [] h (pm_sz h - pm_sz h0) (pm_us h - pm_us h0) := by
  have le0 := moX9_advance_b118 hf
  have kc1 := Nat.sub_le_sub_right le0.1 (pm_sz h0)
  have kc2 := Nat.sub_le_sub_right le0.2 (pm_us h0)
  have K0 := pm_S3.rf h
  unfold fX9_advance_b118 at hf
  refine pm_aload_n C dX9_advance_118 rfl rfl ?_
  refine pm_aload_n C dX9_advance_119 rfl rfl ?_
  obtain ⟨k38, hf⟩ := pm_if hf
  refine pm_getI C dX9_advance_120 flX9_34 rfl k38 rfl ?_
  refine pm_iconst (v := 3) C dX9_advance_123 (by decide) ?_
  refine pm_isub C dX9_advance_124 ?_
  obtain ⟨v39, e40, hf⟩ := pm_bd hf
  refine pm_callV (as := [.int ((pm_I h x0 10) - 3)]) (st := []) C X dX9_advance_125 lnX9_129 myX9_own viX9_own ⟨by decide, by decide⟩ rfl rfl k38 (Nat.le_of_ble_eq_true rfl) kc1 kc2 (ctX9_own e40 ?_)
  have K41 := pm_S3.trans (kpX9_own e40) K0
  show pm_G g 128 [(0, .ref x0)] [] v39 (pm_sz h - pm_sz h0) (pm_us h - pm_us h0)
  exact pa_join K41 (pm_sub [0] rfl (bX9_advance_128 C X (m0.trans (pm_S3.le K41)) hf q))
set_option maxHeartbeats 4000000 in
set_option maxRecDepth 100000 in
theorem bX9_advance_80 {g : pm_Gm} {l : Launch} {G : pm_Gl} {Qr : Option Value → pm_H → Prop} (C : pm_C g cX9_advance RX9) {h0 h : pm_H} {x0 : Nat} {r : pm_H} (X : pm_X g l G mX9_advance (pm_sz r - pm_sz h0) (pm_us r - pm_us h0) Qr) (m0 : pm_Le h0 h) (hf : fX9_advance_b80 h x0 = some r) (q : Qr none r) : pm_G g 80 [(0, .ref x0)] [] h (pm_sz h - pm_sz h0) (pm_us h - pm_us h0) := by
  have le0 := moX9_advance_b80 hf
  have kc1 := Nat.sub_le_sub_right le0.1 (pm_sz h0)
  have kc2 := Nat.sub_le_sub_right le0.2 (pm_us h0)
  have K0 := pm_S3.rf h
  unfold fX9_advance_b80 at hf
  refine pm_goto (tgt := 128) C dX9_advance_80 (by decide) ?_
  exact pa_join K0 (pm_sub [0] rfl (bX9_advance_128 C X (m0.trans (pm_S3.le K0)) hf q))
set_option maxHeartbeats 4000000 in
set_option maxRecDepth 100000 in
theorem bX9_advance_11 {g : pm_Gm} {l : Launch} {G : pm_Gl} {Qr : Option Value → pm_H → Prop} (C : pm_C g cX9_advance RX9) {h0 h : pm_H} {x0 : Nat} {r : pm_H} (X : pm_X g l G mX9_advance (pm_sz r - pm_sz h0) (pm_us r - pm_us h0) Qr) (m0 : pm_Le h0 h) (hf : fX9_advance_b11 h x0 = some r) (q : Qr none r) : pm_G g 11 [(0, .ref x0)] [] h (pm_sz h - pm_sz h0) (pm_us h - pm_us h0) := by
  have le0 := moX9_advance_b11 hf
  have kc1 := Nat.sub_le_sub_right le0.1 (pm_sz h0)
  have kc2 := Nat.sub_le_sub_right le0.2 (pm_us h0)
  have K0 := pm_S3.rf h
  unfold fX9_advance_b11 at hf
  refine pm_goto (tgt := 138) C dX9_advance_11 (by decide) ?_
  exact pa_join K0 (pm_sub [0] rfl (bX9_advance_138 C X (m0.trans (pm_S3.le K0)) hf q))
set_option maxHeartbeats 4000000 in
set_option maxRecDepth 100000 in
theorem bX9_advance_0 {g : pm_Gm} {l : Launch} {G : pm_Gl} {Qr : Option Value → pm_H → Prop} (C : pm_C g cX9_advance RX9) {h0 h : pm_H} {x0 : Nat} {r : pm_H} (X : pm_X g l G mX9_advance (pm_sz r - pm_sz h0) (pm_us r - pm_us h0) Qr) (m0 : pm_Le h0 h) (hf : fX9_advance_b0 h x0 = some r) (q : Qr none r) : pm_G g 0 [(0, .ref x0)] [] h (pm_sz h - pm_sz h0) (pm_us h - pm_us h0) := by
  have le0 := moX9_advance_b0 hf
  have kc1 := Nat.sub_le_sub_right le0.1 (pm_sz h0)
  have kc2 := Nat.sub_le_sub_right le0.2 (pm_us h0)
  have K0 := pm_S3.rf h
  unfold fX9_advance_b0 at hf
  refine pm_aload_n C dX9_advance_0 rfl rfl ?_
  obtain ⟨k1, hf⟩ := pm_if hf
  refine pm_getI C dX9_advance_1 flX9_34 rfl k1 rfl ?_
  refine pm_if_ge (tgt := 14) C dX9_advance_4 (by decide) (fun c2 => ?_) (fun c2 => ?_)
  · have hf := pm_it hf c2
    refine pm_aload_n C dX9_advance_14 rfl rfl ?_
    refine pm_getI C dX9_advance_15 flX9_34 rfl k1 rfl ?_
    obtain ⟨y3, e4, hf⟩ := pm_lt hf
    refine pm_topI e4 ?_
    by_cases c5 : y3 = 1
    · have hf := pm_it hf c5
      refine pm_tableIn (tgt := 76) C dX9_advance_18 (by rw [c5]; decide) (by rw [c5]; decide) (by rw [c5]; rfl) (by decide) ?_
      refine pm_aload_n C dX9_advance_76 rfl rfl ?_
      obtain ⟨v6, e7, hf⟩ := pm_bd hf
      refine pm_callV (as := []) (st := []) C X dX9_advance_77 lnX9_111 myX9_functionType viX9_functionType ⟨by decide, by decide⟩ rfl rfl k1 (Nat.le_of_ble_eq_true rfl) (pa_le1 K0 m0 (moX9_functionType e7) (moX9_advance_b80 hf)) (pa_le2 K0 m0 (moX9_functionType e7) (moX9_advance_b80 hf)) (ctX9_functionType e7 ?_)
      show pm_G g 80 [(0, .ref x0)] [] v6 (pm_sz h - pm_sz h0 + (pm_sz v6 - pm_sz h)) (pm_us h - pm_us h0 + (pm_us v6 - pm_us h))
      refine pa_fin K0 m0 (moX9_functionType e7) ?_
      exact pm_sub [0] rfl (bX9_advance_80 C X ((m0.trans (pm_S3.le K0)).trans (moX9_functionType e7)) hf q)
    have hf := pm_ie hf c5
    by_cases c8 : y3 = 2
    · have hf := pm_it hf c8
      refine pm_tableIn (tgt := 83) C dX9_advance_18 (by rw [c8]; decide) (by rw [c8]; decide) (by rw [c8]; rfl) (by decide) ?_
      refine pm_aload_n C dX9_advance_83 rfl rfl ?_
      obtain ⟨v9, e10, hf⟩ := pm_bd hf
      refine pm_callV (as := []) (st := []) C X dX9_advance_84 lnX9_114 myX9_importOne viX9_importOne ⟨by decide, by decide⟩ rfl rfl k1 (Nat.le_of_ble_eq_true rfl) kc1 kc2 (ctX9_importOne e10 ?_)
      have K11 := pm_S3.trans (kpX9_importOne e10) K0
      show pm_G g 87 [(0, .ref x0)] [] v9 (pm_sz h - pm_sz h0) (pm_us h - pm_us h0)
      refine pm_goto (tgt := 128) C dX9_advance_87 (by decide) ?_
      exact pa_join K11 (pm_sub [0] rfl (bX9_advance_128 C X (m0.trans (pm_S3.le K11)) hf q))
    have hf := pm_ie hf c8
    by_cases c12 : y3 = 3
    · have hf := pm_it hf c12
      refine pm_tableIn (tgt := 118) C dX9_advance_18 (by rw [c12]; decide) (by rw [c12]; decide) (by rw [c12]; rfl) (by decide) ?_
      exact pa_join K0 (pm_sub [0] rfl (bX9_advance_118 C X (m0.trans (pm_S3.le K0)) hf q))
    have hf := pm_ie hf c12
    by_cases c13 : y3 = 4
    · have hf := pm_it hf c13
      refine pm_tableIn (tgt := 118) C dX9_advance_18 (by rw [c13]; decide) (by rw [c13]; decide) (by rw [c13]; rfl) (by decide) ?_
      exact pa_join K0 (pm_sub [0] rfl (bX9_advance_118 C X (m0.trans (pm_S3.le K0)) hf q))
    have hf := pm_ie hf c13
    by_cases c14 : y3 = 5
    · have hf := pm_it hf c14
      refine pm_tableIn (tgt := 118) C dX9_advance_18 (by rw [c14]; decide) (by rw [c14]; decide) (by rw [c14]; rfl) (by decide) ?_
      exact pa_join K0 (pm_sub [0] rfl (bX9_advance_118 C X (m0.trans (pm_S3.le K0)) hf q))
    have hf := pm_ie hf c14
    by_cases c15 : y3 = 6
    · have hf := pm_it hf c15
      refine pm_tableIn (tgt := 118) C dX9_advance_18 (by rw [c15]; decide) (by rw [c15]; decide) (by rw [c15]; rfl) (by decide) ?_
      exact pa_join K0 (pm_sub [0] rfl (bX9_advance_118 C X (m0.trans (pm_S3.le K0)) hf q))
    have hf := pm_ie hf c15
    by_cases c16 : y3 = 7
    · have hf := pm_it hf c16
      refine pm_tableIn (tgt := 90) C dX9_advance_18 (by rw [c16]; decide) (by rw [c16]; decide) (by rw [c16]; rfl) (by decide) ?_
      refine pm_aload_n C dX9_advance_90 rfl rfl ?_
      obtain ⟨v17, e18, hf⟩ := pm_bd hf
      refine pm_callV (as := []) (st := []) C X dX9_advance_91 lnX9_117 myX9_exportOne viX9_exportOne ⟨by decide, by decide⟩ rfl rfl k1 (Nat.le_of_ble_eq_true rfl) kc1 kc2 (ctX9_exportOne e18 ?_)
      have K19 := pm_S3.trans (kpX9_exportOne e18) K0
      show pm_G g 94 [(0, .ref x0)] [] v17 (pm_sz h - pm_sz h0) (pm_us h - pm_us h0)
      refine pm_goto (tgt := 128) C dX9_advance_94 (by decide) ?_
      exact pa_join K19 (pm_sub [0] rfl (bX9_advance_128 C X (m0.trans (pm_S3.le K19)) hf q))
    have hf := pm_ie hf c16
    by_cases c20 : y3 = 8
    · have hf := pm_it hf c20
      refine pm_tableIn (tgt := 118) C dX9_advance_18 (by rw [c20]; decide) (by rw [c20]; decide) (by rw [c20]; rfl) (by decide) ?_
      exact pa_join K0 (pm_sub [0] rfl (bX9_advance_118 C X (m0.trans (pm_S3.le K0)) hf q))
    have hf := pm_ie hf c20
    by_cases c21 : y3 = 9
    · have hf := pm_it hf c21
      refine pm_tableIn (tgt := 97) C dX9_advance_18 (by rw [c21]; decide) (by rw [c21]; decide) (by rw [c21]; rfl) (by decide) ?_
      refine pm_aload_n C dX9_advance_97 rfl rfl ?_
      obtain ⟨v22, e23, hf⟩ := pm_bd hf
      refine pm_callV (as := []) (st := []) C X dX9_advance_98 lnX9_120 myX9_element viX9_element ⟨by decide, by decide⟩ rfl rfl k1 (Nat.le_of_ble_eq_true rfl) kc1 kc2 (ctX9_element e23 ?_)
      have K24 := pm_S3.trans (kpX9_element e23) K0
      show pm_G g 101 [(0, .ref x0)] [] v22 (pm_sz h - pm_sz h0) (pm_us h - pm_us h0)
      refine pm_goto (tgt := 128) C dX9_advance_101 (by decide) ?_
      exact pa_join K24 (pm_sub [0] rfl (bX9_advance_128 C X (m0.trans (pm_S3.le K24)) hf q))
    have hf := pm_ie hf c21
    by_cases c25 : y3 = 10
    · have hf := pm_it hf c25
      refine pm_tableIn (tgt := 104) C dX9_advance_18 (by rw [c25]; decide) (by rw [c25]; decide) (by rw [c25]; rfl) (by decide) ?_
      refine pm_aload_n C dX9_advance_104 rfl rfl ?_
      obtain ⟨v26, e27, hf⟩ := pm_bd hf
      refine pm_callV (as := []) (st := []) C X dX9_advance_105 lnX9_123 myX9_body viX9_body ⟨by decide, by decide⟩ rfl rfl k1 (Nat.le_of_ble_eq_true rfl) kc1 kc2 (ctX9_body e27 ?_)
      have K28 := pm_S3.trans (kpX9_body e27) K0
      show pm_G g 108 [(0, .ref x0)] [] v26 (pm_sz h - pm_sz h0) (pm_us h - pm_us h0)
      refine pm_goto (tgt := 128) C dX9_advance_108 (by decide) ?_
      exact pa_join K28 (pm_sub [0] rfl (bX9_advance_128 C X (m0.trans (pm_S3.le K28)) hf q))
    have hf := pm_ie hf c25
    by_cases c29 : y3 = 11
    · have hf := pm_it hf c29
      refine pm_tableIn (tgt := 111) C dX9_advance_18 (by rw [c29]; decide) (by rw [c29]; decide) (by rw [c29]; rfl) (by decide) ?_
      refine pm_aload_n C dX9_advance_111 rfl rfl ?_
      obtain ⟨v30, e31, hf⟩ := pm_bd hf
      refine pm_callV (as := []) (st := []) C X dX9_advance_112 lnX9_126 myX9_dataOne viX9_dataOne ⟨by decide, by decide⟩ rfl rfl k1 (Nat.le_of_ble_eq_true rfl) kc1 kc2 (ctX9_dataOne e31 ?_)
      have K32 := pm_S3.trans (kpX9_dataOne e31) K0
      show pm_G g 115 [(0, .ref x0)] [] v30 (pm_sz h - pm_sz h0) (pm_us h - pm_us h0)
      refine pm_goto (tgt := 128) C dX9_advance_115 (by decide) ?_
      exact pa_join K32 (pm_sub [0] rfl (bX9_advance_128 C X (m0.trans (pm_S3.le K32)) hf q))
    have hf := pm_ie hf c29
    have nc5 := lv_neT c5 (by decide : (1 : Int32).toInt = 1)
    have nc8 := lv_neT c8 (by decide : (2 : Int32).toInt = 2)
    have nc12 := lv_neT c12 (by decide : (3 : Int32).toInt = 3)
    have nc13 := lv_neT c13 (by decide : (4 : Int32).toInt = 4)
    have nc14 := lv_neT c14 (by decide : (5 : Int32).toInt = 5)
    have nc15 := lv_neT c15 (by decide : (6 : Int32).toInt = 6)
    have nc16 := lv_neT c16 (by decide : (7 : Int32).toInt = 7)
    have nc20 := lv_neT c20 (by decide : (8 : Int32).toInt = 8)
    have nc21 := lv_neT c21 (by decide : (9 : Int32).toInt = 9)
    have nc25 := lv_neT c25 (by decide : (10 : Int32).toInt = 10)
    have nc29 := lv_neT c29 (by decide : (11 : Int32).toInt = 11)
    refine pm_tableOut (tgt := 118) C dX9_advance_18 (by omega) (by decide) ?_
    exact pa_join K0 (pm_sub [0] rfl (bX9_advance_118 C X (m0.trans (pm_S3.le K0)) hf q))
  · have hf := pm_ie hf c2
    refine pm_aload_n C dX9_advance_7 rfl rfl ?_
    obtain ⟨v33, e34, hf⟩ := pm_bd hf
    refine pm_callV (as := []) (st := []) C X dX9_advance_8 lnX9_108 myX9_openSection viX9_openSection ⟨by decide, by decide⟩ rfl rfl k1 (Nat.le_of_ble_eq_true rfl) (pa_le1 K0 m0 (moX9_openSection e34) (moX9_advance_b11 hf)) (pa_le2 K0 m0 (moX9_openSection e34) (moX9_advance_b11 hf)) (ctX9_openSection e34 ?_)
    show pm_G g 11 [(0, .ref x0)] [] v33 (pm_sz h - pm_sz h0 + (pm_sz v33 - pm_sz h)) (pm_us h - pm_us h0 + (pm_us v33 - pm_us h))
    refine pa_fin K0 m0 (moX9_openSection e34) ?_
    exact pm_sub [0] rfl (bX9_advance_11 C X ((m0.trans (pm_S3.le K0)).trans (moX9_openSection e34)) hf q)
set_option maxHeartbeats 4000000 in
set_option maxRecDepth 100000 in
theorem ctX9_advance {l : Launch} {G : pm_Gl} {h : pm_H} {a0 : Nat} {r : pm_H} {Qr : Option Value → pm_H → Prop} (hf : fX9_advance h a0 = some r) (q : Qr none r) : pm_Ct l G mX9_advance [.ref a0] h (pm_sz r - pm_sz h) (pm_us r - pm_us h) Qr := by
  refine pm_body pnX9 (Nat.le_of_ble_eq_true rfl) (fun g C X => ?_)
  have C : pm_C g cX9_advance RX9 := C
  show pm_G g 0 [(0, .ref a0)] [] h 0 0
  unfold fX9_advance at hf
  exact pa_start (pm_sub [0] rfl (bX9_advance_0 C X (pm_Le.rf h) hf q))
