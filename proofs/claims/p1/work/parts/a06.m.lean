theorem dX6_create_0 : decode cX6_create 0 = .ok (.aload_n 0, 1) := by decide +kernel
theorem dX6_create_1 : decode cX6_create 1 = .ok (.getfield 38, 3) := by decide +kernel
theorem dX6_create_4 : decode cX6_create 4 = .ok (.istore 5, 2) := by decide +kernel
theorem dX6_create_6 : decode cX6_create 6 = .ok (.aload_n 0, 1) := by decide +kernel
theorem dX6_create_7 : decode cX6_create 7 = .ok (.dup, 1) := by decide +kernel
theorem dX6_create_8 : decode cX6_create 8 = .ok (.getfield 38, 3) := by decide +kernel
theorem dX6_create_11 : decode cX6_create 11 = .ok (.iconst 1, 1) := by decide +kernel
theorem dX6_create_12 : decode cX6_create 12 = .ok (.iadd, 1) := by decide +kernel
theorem dX6_create_13 : decode cX6_create 13 = .ok (.putfield 38, 3) := by decide +kernel
theorem dX6_create_16 : decode cX6_create 16 = .ok (.aload_n 0, 1) := by decide +kernel
theorem dX6_create_17 : decode cX6_create 17 = .ok (.getfield 15, 3) := by decide +kernel
theorem dX6_create_20 : decode cX6_create 20 = .ok (.iload 5, 2) := by decide +kernel
theorem dX6_create_22 : decode cX6_create 22 = .ok (.iconst 0, 1) := by decide +kernel
theorem dX6_create_23 : decode cX6_create 23 = .ok (.invokestatic 41, 3) := by decide +kernel
theorem dX6_create_26 : decode cX6_create 26 = .ok (.aload_n 0, 1) := by decide +kernel
theorem dX6_create_27 : decode cX6_create 27 = .ok (.getfield 19, 3) := by decide +kernel
theorem dX6_create_30 : decode cX6_create 30 = .ok (.iload 5, 2) := by decide +kernel
theorem dX6_create_32 : decode cX6_create 32 = .ok (.lload_n 3, 1) := by decide +kernel
theorem dX6_create_33 : decode cX6_create 33 = .ok (.invokestatic 45, 3) := by decide +kernel
theorem dX6_create_36 : decode cX6_create 36 = .ok (.aload_n 0, 1) := by decide +kernel
theorem dX6_create_37 : decode cX6_create 37 = .ok (.iload 5, 2) := by decide +kernel
theorem dX6_create_39 : decode cX6_create 39 = .ok (.lload_n 1, 1) := by decide +kernel
theorem dX6_create_40 : decode cX6_create 40 = .ok (.invokevirtual 48, 3) := by decide +kernel
theorem dX6_create_43 : decode cX6_create 43 = .ok (.pop, 1) := by decide +kernel
theorem dX6_create_44 : decode cX6_create 44 = .ok (.iload 5, 2) := by decide +kernel
theorem dX6_create_46 : decode cX6_create 46 = .ok (.ireturn, 1) := by decide +kernel
noncomputable def fX6_create_b43 (h : pm_H) (x5 : Int32) (s0 : Int32) : Option (Int32 × pm_H) := some ((x5, h))
noncomputable def fX6_create_b0 (h : pm_H) (x0 : Nat) (x1 : Int64) (x3 : Int64) : Option (Int32 × pm_H) := if pm_kd h x0 = 6 then pm_let (pm_I h x0 0) fun y2 => pm_let ((pm_I h x0 0) + 1) fun y4 => (pm_R (pm_setI h x0 0 y4) x0 2).bind fun v6 => (fX12_setItem (pm_setI h x0 0 y4) v6 y2 0).bind fun v8 => if pm_kd v8 x0 = 6 then (pm_R v8 x0 3).bind fun v12 => (fX12_setItem_ v8 v12 y2 x3).bind fun v14 => if pm_kd v14 x0 = 6 then (fX6_grow v14 x0 y2 x1).bind fun v18 => fX6_create_b43 v18.2 y2 v18.1 else none else none else none
noncomputable def fX6_create (h : pm_H) (a0 : Nat) (p1 : Int64) (p2 : Int64) : Option (Int32 × pm_H) := fX6_create_b0 h a0 p1 p2
set_option maxHeartbeats 4000000 in
set_option maxRecDepth 100000 in
theorem moX6_create_b43 {h : pm_H} {x5 : Int32} {s0 : Int32} {r : (Int32 × pm_H)} (hf : fX6_create_b43 h x5 s0 = some r) : pm_Le h r.2 := by
  unfold fX6_create_b43 at hf
  have K0 := pm_S3.rf h
  have hf := Option.some.inj hf
  subst hf
  exact pm_S3.le K0
set_option maxHeartbeats 4000000 in
set_option maxRecDepth 100000 in
theorem moX6_create_b0 {h : pm_H} {x0 : Nat} {x1 : Int64} {x3 : Int64} {r : (Int32 × pm_H)} (hf : fX6_create_b0 h x0 x1 x3 = some r) : pm_Le h r.2 := by
  unfold fX6_create_b0 at hf
  have K0 := pm_S3.rf h
  obtain ⟨k1, hf⟩ := pm_if hf
  obtain ⟨y2, e3, hf⟩ := pm_lt hf
  obtain ⟨y4, e5, hf⟩ := pm_lt hf
  obtain ⟨v6, e7, hf⟩ := pm_bd hf
  obtain ⟨v8, e9, hf⟩ := pm_bd hf
  have K10 := pm_S3.trans (kpX12_setItem e9) (pm_S3I K0)
  obtain ⟨k11, hf⟩ := pm_if hf
  obtain ⟨v12, e13, hf⟩ := pm_bd hf
  obtain ⟨v14, e15, hf⟩ := pm_bd hf
  have K16 := pm_S3.trans (kpX12_setItem_ e15) K10
  obtain ⟨k17, hf⟩ := pm_if hf
  obtain ⟨v18, e19, hf⟩ := pm_bd hf
  exact ((pm_S3.le K16).trans (moX6_grow e19)).trans (moX6_create_b43 hf)
set_option maxHeartbeats 4000000 in
set_option maxRecDepth 100000 in
theorem moX6_create {h : pm_H} {a0 : Nat} {p1 : Int64} {p2 : Int64} {r : (Int32 × pm_H)} (hf : fX6_create h a0 p1 p2 = some r) : pm_Le h r.2 := by
  unfold fX6_create at hf
  have K0 := pm_S3.rf h
  exact (pm_S3.le K0).trans (moX6_create_b0 hf)
set_option maxHeartbeats 4000000 in
set_option maxRecDepth 100000 in
theorem bX6_create_43 {g : pm_Gm} {l : Launch} {G : pm_Gl} {Qr : Option Value → pm_H → Prop} (C : pm_C g cX6_create RX6) {h0 h : pm_H} {x5 : Int32} {s0 : Int32} {r : (Int32 × pm_H)} (X : pm_X g l G mX6_create (pm_sz r.2 - pm_sz h0) (pm_us r.2 - pm_us h0) Qr) (m0 : pm_Le h0 h) (hf : fX6_create_b43 h x5 s0 = some r) (q : Qr (some (.int r.1)) r.2) : pm_G g 43 [(5, .int x5)] [.int s0] h (pm_sz h - pm_sz h0) (pm_us h - pm_us h0) := by
  have le0 := moX6_create_b43 hf
  have kc1 := Nat.sub_le_sub_right le0.1 (pm_sz h0)
  have kc2 := Nat.sub_le_sub_right le0.2 (pm_us h0)
  have K0 := pm_S3.rf h
  unfold fX6_create_b43 at hf
  refine pm_pop C dX6_create_43 rfl ?_
  refine pm_iload C dX6_create_44 rfl ?_
  have hf := Option.some.inj hf
  subst hf
  exact pm_iret C X dX6_create_46 rfl kc1 kc2 q
set_option maxHeartbeats 4000000 in
set_option maxRecDepth 100000 in
theorem bX6_create_0 {g : pm_Gm} {l : Launch} {G : pm_Gl} {Qr : Option Value → pm_H → Prop} (C : pm_C g cX6_create RX6) {h0 h : pm_H} {x0 : Nat} {x1 : Int64} {x3 : Int64} {r : (Int32 × pm_H)} (X : pm_X g l G mX6_create (pm_sz r.2 - pm_sz h0) (pm_us r.2 - pm_us h0) Qr) (m0 : pm_Le h0 h) (hf : fX6_create_b0 h x0 x1 x3 = some r) (q : Qr (some (.int r.1)) r.2) : pm_G g 0 [(0, .ref x0), (1, .long x1), (3, .long x3)] [] h (pm_sz h - pm_sz h0) (pm_us h - pm_us h0) := by
  have le0 := moX6_create_b0 hf
  have kc1 := Nat.sub_le_sub_right le0.1 (pm_sz h0)
  have kc2 := Nat.sub_le_sub_right le0.2 (pm_us h0)
  have K0 := pm_S3.rf h
  unfold fX6_create_b0 at hf
  refine pm_aload_n C dX6_create_0 rfl rfl ?_
  obtain ⟨k1, hf⟩ := pm_if hf
  refine pm_getI C dX6_create_1 flX6_38 rfl k1 rfl ?_
  obtain ⟨y2, e3, hf⟩ := pm_lt hf
  refine pm_topI e3 ?_
  refine pm_istore (lv' := [(5, .int y2), (0, .ref x0), (1, .long x1), (3, .long x3)]) C dX6_create_4 (pm_nl X (by decide)) rfl ?_
  refine pm_aload_n C dX6_create_6 rfl rfl ?_
  refine pm_dup C dX6_create_7 rfl ?_
  refine pm_getI C dX6_create_8 flX6_38 rfl k1 rfl ?_
  refine pm_iconst (v := 1) C dX6_create_11 (by decide) ?_
  refine pm_iadd C dX6_create_12 ?_
  obtain ⟨y4, e5, hf⟩ := pm_lt hf
  refine pm_topI e5 ?_
  refine pm_putI C dX6_create_13 flX6_38 rfl rfl k1 rfl rfl ?_
  refine pm_aload_n C dX6_create_16 rfl rfl ?_
  obtain ⟨v6, e7, hf⟩ := pm_bd hf
  refine pm_getR C dX6_create_17 flX6_15 rfl k1 e7 ?_
  refine pm_iload C dX6_create_20 rfl ?_
  refine pm_iconst (v := 0) C dX6_create_22 (by decide) ?_
  obtain ⟨v8, e9, hf⟩ := pm_bd hf
  refine pm_callS (as := [.ref v6, .int y2, .int 0]) (st := []) C X dX6_create_23 lnX6_41 myX12_setItem stX12_setItem ⟨by decide, by decide⟩ rfl rfl (Nat.le_of_ble_eq_true rfl) kc1 kc2 (ctX12_setItem e9 ?_)
  have K10 := pm_S3.trans (kpX12_setItem e9) (pm_S3I K0)
  show pm_G g 26 [(5, .int y2), (0, .ref x0), (1, .long x1), (3, .long x3)] [] v8 (pm_sz h - pm_sz h0) (pm_us h - pm_us h0)
  refine pm_aload_n C dX6_create_26 rfl rfl ?_
  obtain ⟨k11, hf⟩ := pm_if hf
  obtain ⟨v12, e13, hf⟩ := pm_bd hf
  refine pm_getR C dX6_create_27 flX6_19 rfl k11 e13 ?_
  refine pm_iload C dX6_create_30 rfl ?_
  refine pm_lload_n C dX6_create_32 rfl rfl ?_
  obtain ⟨v14, e15, hf⟩ := pm_bd hf
  refine pm_callS (as := [.ref v12, .int y2, .long x3]) (st := []) C X dX6_create_33 lnX6_45 myX12_setItem_ stX12_setItem_ ⟨by decide, by decide⟩ rfl rfl (Nat.le_of_ble_eq_true rfl) kc1 kc2 (ctX12_setItem_ e15 ?_)
  have K16 := pm_S3.trans (kpX12_setItem_ e15) K10
  show pm_G g 36 [(5, .int y2), (0, .ref x0), (1, .long x1), (3, .long x3)] [] v14 (pm_sz h - pm_sz h0) (pm_us h - pm_us h0)
  refine pm_aload_n C dX6_create_36 rfl rfl ?_
  refine pm_iload C dX6_create_37 rfl ?_
  refine pm_lload_n C dX6_create_39 rfl rfl ?_
  obtain ⟨k17, hf⟩ := pm_if hf
  obtain ⟨v18, e19, hf⟩ := pm_bd hf
  refine pm_callV (as := [.int y2, .long x1]) (st := []) C X dX6_create_40 lnX6_48 myX6_grow viX6_grow ⟨by decide, by decide⟩ rfl rfl k17 (Nat.le_of_ble_eq_true rfl) (pa_le1 K16 m0 (moX6_grow e19) (moX6_create_b43 hf)) (pa_le2 K16 m0 (moX6_grow e19) (moX6_create_b43 hf)) (ctX6_grow e19 ?_)
  show pm_G g 43 [(5, .int y2), (0, .ref x0), (1, .long x1), (3, .long x3)] [.int v18.1] v18.2 (pm_sz h - pm_sz h0 + (pm_sz v18.2 - pm_sz v14)) (pm_us h - pm_us h0 + (pm_us v18.2 - pm_us v14))
  refine pa_fin K16 m0 (moX6_grow e19) ?_
  exact pm_sub [0] rfl (bX6_create_43 C X ((m0.trans (pm_S3.le K16)).trans (moX6_grow e19)) hf q)
set_option maxHeartbeats 4000000 in
set_option maxRecDepth 100000 in
theorem ctX6_create {l : Launch} {G : pm_Gl} {h : pm_H} {a0 : Nat} {p1 : Int64} {p2 : Int64} {r : (Int32 × pm_H)} {Qr : Option Value → pm_H → Prop} (hf : fX6_create h a0 p1 p2 = some r) (q : Qr (some (.int r.1)) r.2) : pm_Ct l G mX6_create [.ref a0, .long p1, .long p2] h (pm_sz r.2 - pm_sz h) (pm_us r.2 - pm_us h) Qr := by
  refine pm_body pnX6 (Nat.le_of_ble_eq_true rfl) (fun g C X => ?_)
  have C : pm_C g cX6_create RX6 := C
  show pm_G g 0 [(0, .ref a0), (1, .long p1), (3, .long p2)] [] h 0 0
  unfold fX6_create at hf
  exact pa_start (pm_sub [0, 1, 2] rfl (bX6_create_0 C X (pm_Le.rf h) hf q))
theorem dX16_make_0 : decode cX16_make 0 = .ok (.iload_n 1, 1) := by decide +kernel
theorem dX16_make_1 : decode cX16_make 1 = .ok (.ifCond .lt 11, 3) := by decide +kernel
theorem dX16_make_4 : decode cX16_make 4 = .ok (.iload_n 1, 1) := by decide +kernel
theorem dX16_make_5 : decode cX16_make 5 = .ok (.aload_n 0, 1) := by decide +kernel
theorem dX16_make_6 : decode cX16_make 6 = .ok (.getfield 218, 3) := by decide +kernel
theorem dX16_make_9 : decode cX16_make 9 = .ok (.if_icmp .lt 5, 3) := by decide +kernel
theorem dX16_make_12 : decode cX16_make 12 = .ok (.iconst (-1), 1) := by decide +kernel
theorem dX16_make_13 : decode cX16_make 13 = .ok (.ireturn, 1) := by decide +kernel
theorem dX16_make_14 : decode cX16_make 14 = .ok (.aload_n 0, 1) := by decide +kernel
theorem dX16_make_15 : decode cX16_make 15 = .ok (.invokevirtual 986, 3) := by decide +kernel
theorem dX16_make_18 : decode cX16_make 18 = .ok (.ifCond .eq 6, 3) := by decide +kernel
theorem dX16_make_21 : decode cX16_make 21 = .ok (.bipush (-10), 2) := by decide +kernel
theorem dX16_make_23 : decode cX16_make 23 = .ok (.ireturn, 1) := by decide +kernel
theorem dX16_make_24 : decode cX16_make 24 = .ok (.aload_n 0, 1) := by decide +kernel
theorem dX16_make_25 : decode cX16_make 25 = .ok (.getfield 16, 3) := by decide +kernel
theorem dX16_make_28 : decode cX16_make 28 = .ok (.iload_n 1, 1) := by decide +kernel
theorem dX16_make_29 : decode cX16_make 29 = .ok (.aaload, 1) := by decide +kernel
theorem dX16_make_30 : decode cX16_make 30 = .ok (.astore_n 2, 1) := by decide +kernel
theorem dX16_make_31 : decode cX16_make 31 = .ok (.aload_n 0, 1) := by decide +kernel
theorem dX16_make_32 : decode cX16_make 32 = .ok (.getfield 967, 3) := by decide +kernel
theorem dX16_make_35 : decode cX16_make 35 = .ok (.istore_n 3, 1) := by decide +kernel
theorem dX16_make_36 : decode cX16_make 36 = .ok (.aload_n 0, 1) := by decide +kernel
theorem dX16_make_37 : decode cX16_make 37 = .ok (.iconst 0, 1) := by decide +kernel
theorem dX16_make_38 : decode cX16_make 38 = .ok (.putfield 967, 3) := by decide +kernel
theorem dX16_make_41 : decode cX16_make 41 = .ok (.iload_n 3, 1) := by decide +kernel
theorem dX16_make_42 : decode cX16_make 42 = .ok (.aload_n 2, 1) := by decide +kernel
theorem dX16_make_43 : decode cX16_make 43 = .ok (.getfield 402, 3) := by decide +kernel
theorem dX16_make_46 : decode cX16_make 46 = .ok (.if_icmp .eq 6, 3) := by decide +kernel
theorem dX16_make_49 : decode cX16_make 49 = .ok (.bipush (-2), 2) := by decide +kernel
theorem dX16_make_51 : decode cX16_make 51 = .ok (.ireturn, 1) := by decide +kernel
theorem dX16_make_52 : decode cX16_make 52 = .ok (.iconst 0, 1) := by decide +kernel
theorem dX16_make_53 : decode cX16_make 53 = .ok (.istore 4, 2) := by decide +kernel
theorem dX16_make_55 : decode cX16_make 55 = .ok (.iconst 0, 1) := by decide +kernel
theorem dX16_make_56 : decode cX16_make 56 = .ok (.istore 5, 2) := by decide +kernel
theorem dX16_make_58 : decode cX16_make 58 = .ok (.iload 5, 2) := by decide +kernel
theorem dX16_make_60 : decode cX16_make 60 = .ok (.aload_n 2, 1) := by decide +kernel
theorem dX16_make_61 : decode cX16_make 61 = .ok (.getfield 402, 3) := by decide +kernel
theorem dX16_make_64 : decode cX16_make 64 = .ok (.if_icmp .ge 51, 3) := by decide +kernel
theorem dX16_make_67 : decode cX16_make 67 = .ok (.aload_n 0, 1) := by decide +kernel
theorem dX16_make_68 : decode cX16_make 68 = .ok (.iload_n 1, 1) := by decide +kernel
theorem dX16_make_69 : decode cX16_make 69 = .ok (.iload 5, 2) := by decide +kernel
theorem dX16_make_71 : decode cX16_make 71 = .ok (.invokevirtual 989, 3) := by decide +kernel
theorem dX16_make_74 : decode cX16_make 74 = .ok (.ifCond .ne 14, 3) := by decide +kernel
theorem dX16_make_77 : decode cX16_make 77 = .ok (.bipush (-3), 2) := by decide +kernel
theorem dX16_make_79 : decode cX16_make 79 = .ok (.aload_n 2, 1) := by decide +kernel
theorem dX16_make_80 : decode cX16_make 80 = .ok (.getfield 411, 3) := by decide +kernel
theorem dX16_make_83 : decode cX16_make 83 = .ok (.iload 5, 2) := by decide +kernel
theorem dX16_make_85 : decode cX16_make 85 = .ok (.iaload, 1) := by decide +kernel
theorem dX16_make_86 : decode cX16_make 86 = .ok (.isub, 1) := by decide +kernel
theorem dX16_make_87 : decode cX16_make 87 = .ok (.ireturn, 1) := by decide +kernel
theorem dX16_make_88 : decode cX16_make 88 = .ok (.iload 4, 2) := by decide +kernel
theorem dX16_make_90 : decode cX16_make 90 = .ok (.aload_n 0, 1) := by decide +kernel
theorem dX16_make_91 : decode cX16_make 91 = .ok (.getfield 158, 3) := by decide +kernel
theorem dX16_make_94 : decode cX16_make 94 = .ok (.iload 5, 2) := by decide +kernel
theorem dX16_make_96 : decode cX16_make 96 = .ok (.iaload, 1) := by decide +kernel
theorem dX16_make_97 : decode cX16_make 97 = .ok (.iconst (-1), 1) := by decide +kernel
theorem dX16_make_98 : decode cX16_make 98 = .ok (.if_icmp .ne 7, 3) := by decide +kernel
theorem dX16_make_101 : decode cX16_make 101 = .ok (.iconst 1, 1) := by decide +kernel
theorem dX16_make_102 : decode cX16_make 102 = .ok (.goto 4, 3) := by decide +kernel
theorem dX16_make_105 : decode cX16_make 105 = .ok (.iconst 0, 1) := by decide +kernel
theorem dX16_make_106 : decode cX16_make 106 = .ok (.iadd, 1) := by decide +kernel
theorem dX16_make_107 : decode cX16_make 107 = .ok (.istore 4, 2) := by decide +kernel
theorem dX16_make_109 : decode cX16_make 109 = .ok (.iinc 5 1, 3) := by decide +kernel
theorem dX16_make_112 : decode cX16_make 112 = .ok (.goto (-54), 3) := by decide +kernel
theorem dX16_make_115 : decode cX16_make 115 = .ok (.aload_n 0, 1) := by decide +kernel
theorem dX16_make_116 : decode cX16_make 116 = .ok (.aload_n 2, 1) := by decide +kernel
theorem dX16_make_117 : decode cX16_make 117 = .ok (.iload 4, 2) := by decide +kernel
theorem dX16_make_119 : decode cX16_make 119 = .ok (.invokevirtual 992, 3) := by decide +kernel
theorem dX16_make_122 : decode cX16_make 122 = .ok (.ifCond .ne 6, 3) := by decide +kernel
theorem dX16_make_125 : decode cX16_make 125 = .ok (.bipush (-9), 2) := by decide +kernel
theorem dX16_make_127 : decode cX16_make 127 = .ok (.ireturn, 1) := by decide +kernel
theorem dX16_make_128 : decode cX16_make 128 = .ok (.aload_n 0, 1) := by decide +kernel
theorem dX16_make_129 : decode cX16_make 129 = .ok (.getfield 949, 3) := by decide +kernel
theorem dX16_make_132 : decode cX16_make 132 = .ok (.istore 5, 2) := by decide +kernel
theorem dX16_make_134 : decode cX16_make 134 = .ok (.aload_n 0, 1) := by decide +kernel
theorem dX16_make_135 : decode cX16_make 135 = .ok (.dup, 1) := by decide +kernel
theorem dX16_make_136 : decode cX16_make 136 = .ok (.getfield 949, 3) := by decide +kernel
theorem dX16_make_139 : decode cX16_make 139 = .ok (.iconst 1, 1) := by decide +kernel
theorem dX16_make_140 : decode cX16_make 140 = .ok (.iadd, 1) := by decide +kernel
theorem dX16_make_141 : decode cX16_make 141 = .ok (.putfield 949, 3) := by decide +kernel
theorem dX16_make_144 : decode cX16_make 144 = .ok (.aload_n 0, 1) := by decide +kernel
theorem dX16_make_145 : decode cX16_make 145 = .ok (.getfield 131, 3) := by decide +kernel
theorem dX16_make_148 : decode cX16_make 148 = .ok (.iload 5, 2) := by decide +kernel
theorem dX16_make_150 : decode cX16_make 150 = .ok (.iload_n 1, 1) := by decide +kernel
theorem dX16_make_151 : decode cX16_make 151 = .ok (.iastore, 1) := by decide +kernel
theorem dX16_make_152 : decode cX16_make 152 = .ok (.aload_n 0, 1) := by decide +kernel
theorem dX16_make_153 : decode cX16_make 153 = .ok (.aload_n 2, 1) := by decide +kernel
theorem dX16_make_154 : decode cX16_make 154 = .ok (.putfield 221, 3) := by decide +kernel
theorem dX16_make_157 : decode cX16_make 157 = .ok (.aload_n 0, 1) := by decide +kernel
theorem dX16_make_158 : decode cX16_make 158 = .ok (.iload 5, 2) := by decide +kernel
theorem dX16_make_160 : decode cX16_make 160 = .ok (.iload_n 1, 1) := by decide +kernel
theorem dX16_make_161 : decode cX16_make 161 = .ok (.invokevirtual 996, 3) := by decide +kernel
theorem dX16_make_164 : decode cX16_make 164 = .ok (.aload_n 0, 1) := by decide +kernel
theorem dX16_make_165 : decode cX16_make 165 = .ok (.iload 5, 2) := by decide +kernel
theorem dX16_make_167 : decode cX16_make 167 = .ok (.iload_n 1, 1) := by decide +kernel
theorem dX16_make_168 : decode cX16_make 168 = .ok (.invokevirtual 999, 3) := by decide +kernel
theorem dX16_make_171 : decode cX16_make 171 = .ok (.aload_n 0, 1) := by decide +kernel
theorem dX16_make_172 : decode cX16_make 172 = .ok (.iload 5, 2) := by decide +kernel
theorem dX16_make_174 : decode cX16_make 174 = .ok (.invokevirtual 1002, 3) := by decide +kernel
theorem dX16_make_177 : decode cX16_make 177 = .ok (.iload 5, 2) := by decide +kernel
theorem dX16_make_179 : decode cX16_make 179 = .ok (.ireturn, 1) := by decide +kernel
noncomputable def tX16_make_0 (x0 : Nat) (x1 : Int32) (h : pm_H) : Option (((Nat × Int32 × pm_H) ⊕ (Nat × Int32 × Nat × Int32 × Int32 × pm_H) ⊕ (Nat × Int32 × Int32 × pm_H)) ⊕ (Int32 × pm_H)) := if x1 < 0 then (some (.inr (((-1), h)))) else (if pm_kd h x0 = 16 then if x1 < (pm_I h x0 3) then ((fX16_runs h x0).bind fun v4 => if v4 = 0 then ((pm_R h x0 4).bind fun v7 => if pm_kd h v7 = 42 then if pm_in x1 (pm_ln h v7) then (pm_R h v7 x1.toNatClampNeg).bind fun v11 => pm_let (pm_I h x0 73) fun y13 => if pm_kd (pm_setI h x0 73 0) v11 = 14 then if y13 = (pm_I (pm_setI h x0 73 0) v11 8) then (some (.inl (.inr (.inl ((x0, x1, v11, 0, 0, pm_setI h x0 73 0)))))) else (some (.inr (((-2), pm_setI h x0 73 0)))) else none else none else none) else (some (.inr (((-10), h))))) else (some (.inr (((-1), h)))) else none)
noncomputable def tX16_make_58 (x0 : Nat) (x1 : Int32) (x2 : Nat) (x4 : Int32) (x5 : Int32) (h : pm_H) : Option (((Nat × Int32 × pm_H) ⊕ (Nat × Int32 × Nat × Int32 × Int32 × pm_H) ⊕ (Nat × Int32 × Int32 × pm_H)) ⊕ (Int32 × pm_H)) := if pm_kd h x2 = 14 then if (pm_I h x2 8) ≤ x5 then (if pm_kd h x0 = 16 then (fX16_hasRoom h x0 x2 x4).bind fun v20 => if v20 = 0 then (some (.inr (((-9), h)))) else (pm_let (pm_I h x0 62) fun y23 => pm_let ((pm_I h x0 62) + 1) fun y25 => (pm_R (pm_setI h x0 62 y25) x0 63).bind fun v27 => if pm_kd (pm_setI h x0 62 y25) v27 = 34 then if pm_in y23 (pm_ln (pm_setI h x0 62 y25) v27) then (fX16_takesImports (pm_setR (pm_setI (pm_setI h x0 62 y25) v27 y23.toNatClampNeg x1) x0 10 (some x2)) x0 y23 x1).bind fun v31 => some (.inl (.inr (.inr ((x0, x1, y23, v31))))) else none else none) else none) else (if pm_kd h x0 = 16 then (fX16_fits h x0 x1 x5).bind fun v34 => if v34 = 0 then ((pm_R h x2 9).bind fun v50 => if pm_kd h v50 = 34 then if pm_in x5 (pm_ln h v50) then some (.inr (((-3) - (pm_I h v50 x5.toNatClampNeg), h))) else none else none) else ((pm_R h x0 74).bind fun v37 => if pm_kd h v37 = 34 then if pm_in x5 (pm_ln h v37) then if (pm_I h v37 x5.toNatClampNeg) = (-1) then (pm_let (x4 + 1) fun y46 => pm_let (x5 + 1) fun y48 => some (.inl (.inr (.inl ((x0, x1, x2, y46, y48, h)))))) else (pm_let (x4 + 0) fun y42 => pm_let (x5 + 1) fun y44 => some (.inl (.inr (.inl ((x0, x1, x2, y42, y44, h)))))) else none else none) else none) else none
noncomputable def tX16_make_164 (x0 : Nat) (x1 : Int32) (x5 : Int32) (h : pm_H) : Option (((Nat × Int32 × pm_H) ⊕ (Nat × Int32 × Nat × Int32 × Int32 × pm_H) ⊕ (Nat × Int32 × Int32 × pm_H)) ⊕ (Int32 × pm_H)) := if pm_kd h x0 = 16 then (fX16_takesOwn h x0 x5 x1).bind fun v55 => if pm_kd v55 x0 = 16 then (fX16_startsUp v55 x0 x5).bind fun v59 => some (.inr ((x5, v59))) else none else none
noncomputable def sX16_make : ((Nat × Int32 × pm_H) ⊕ (Nat × Int32 × Nat × Int32 × Int32 × pm_H) ⊕ (Nat × Int32 × Int32 × pm_H)) → Option (((Nat × Int32 × pm_H) ⊕ (Nat × Int32 × Nat × Int32 × Int32 × pm_H) ⊕ (Nat × Int32 × Int32 × pm_H)) ⊕ (Int32 × pm_H)) := fun z => match z with
  | .inl (x0, x1, h) => tX16_make_0 x0 x1 h
  | .inr (.inl (x0, x1, x2, x4, x5, h)) => tX16_make_58 x0 x1 x2 x4 x5 h
  | .inr (.inr (x0, x1, x5, h)) => tX16_make_164 x0 x1 x5 h
noncomputable def fX16_make (h : pm_H) (a0 : Nat) (p1 : Int32) : Option (Int32 × pm_H) := pm_lim sX16_make (.inl ((a0, p1, h)))
set_option maxHeartbeats 4000000 in
set_option maxRecDepth 100000 in
theorem mlX16_make {r : (Int32 × pm_H)} : ∀ n : Nat, (∀ (x0 : Nat) (x1 : Int32) (h : pm_H), pm_iter sX16_make n (.inl (x0, x1, h)) = some r → pm_Le h r.2) ∧ (∀ (x0 : Nat) (x1 : Int32) (x2 : Nat) (x4 : Int32) (x5 : Int32) (h : pm_H), pm_iter sX16_make n (.inr (.inl (x0, x1, x2, x4, x5, h))) = some r → pm_Le h r.2) ∧ (∀ (x0 : Nat) (x1 : Int32) (x5 : Int32) (h : pm_H), pm_iter sX16_make n (.inr (.inr (x0, x1, x5, h))) = some r → pm_Le h r.2) := by
  intro n
  induction n with
  | zero => exact ⟨fun _ _ _ hf => (by cases hf), fun _ _ _ _ _ _ hf => (by cases hf), fun _ _ _ _ hf => (by cases hf)⟩
  | succ n ih =>
    refine ⟨fun x0 x1 h hf => ?_, ?_⟩
    · obtain ⟨y, hf, hi⟩ := pm_iter_s hf
      have hf : tX16_make_0 x0 x1 h = some y := hf
      unfold tX16_make_0 at hf
      have K0 := pm_S3.rf h
      by_cases c1 : x1 < 0
      · have hf := pm_it hf c1
        have hf := Option.some.inj hf
        subst hf
        have hi := Option.some.inj (show some _ = some r from hi)
        subst hi
        exact pm_S3.le K0
      · have hf := pm_ie hf c1
        obtain ⟨k2, hf⟩ := pm_if hf
        by_cases c3 : x1 < (pm_I h x0 3)
        · have hf := pm_it hf c3
          obtain ⟨v4, e5, hf⟩ := pm_bd hf
          by_cases c6 : v4 = 0
          · have hf := pm_it hf c6
            obtain ⟨v7, e8, hf⟩ := pm_bd hf
            obtain ⟨k9, hf⟩ := pm_if hf
            obtain ⟨u10, hf⟩ := pm_if hf
            obtain ⟨v11, e12, hf⟩ := pm_bd hf
            obtain ⟨y13, e14, hf⟩ := pm_lt hf
            obtain ⟨k15, hf⟩ := pm_if hf
            by_cases c16 : y13 = (pm_I (pm_setI h x0 73 0) v11 8)
            · have hf := pm_it hf c16
              cases hf
              exact (pm_S3.le (pm_S3I K0)).trans (ih.2.1 x0 x1 v11 0 0 (pm_setI h x0 73 0) hi)
            · have hf := pm_ie hf c16
              have hf := Option.some.inj hf
              subst hf
              have hi := Option.some.inj (show some _ = some r from hi)
              subst hi
              exact pm_S3.le (pm_S3I K0)
          · have hf := pm_ie hf c6
            have hf := Option.some.inj hf
            subst hf
            have hi := Option.some.inj (show some _ = some r from hi)
            subst hi
            exact pm_S3.le K0
        · have hf := pm_ie hf c3
          have hf := Option.some.inj hf
          subst hf
          have hi := Option.some.inj (show some _ = some r from hi)
          subst hi
          exact pm_S3.le K0
    refine ⟨fun x0 x1 x2 x4 x5 h hf => ?_, ?_⟩
    · obtain ⟨y, hf, hi⟩ := pm_iter_s hf
      have hf : tX16_make_58 x0 x1 x2 x4 x5 h = some y := hf
      unfold tX16_make_58 at hf
      have K0 := pm_S3.rf h
      obtain ⟨k17, hf⟩ := pm_if hf
      by_cases c18 : (pm_I h x2 8) ≤ x5
      · have hf := pm_it hf c18
        obtain ⟨k19, hf⟩ := pm_if hf
        obtain ⟨v20, e21, hf⟩ := pm_bd hf
        by_cases c22 : v20 = 0
        · have hf := pm_it hf c22
          have hf := Option.some.inj hf
          subst hf
          have hi := Option.some.inj (show some _ = some r from hi)
          subst hi
          exact pm_S3.le K0
        · have hf := pm_ie hf c22
          obtain ⟨y23, e24, hf⟩ := pm_lt hf
          obtain ⟨y25, e26, hf⟩ := pm_lt hf
          obtain ⟨v27, e28, hf⟩ := pm_bd hf
          obtain ⟨k29, hf⟩ := pm_if hf
          obtain ⟨u30, hf⟩ := pm_if hf
          obtain ⟨v31, e32, hf⟩ := pm_bd hf
          cases hf
          exact ((pm_S3.le (pm_S3R (pm_S3I (pm_S3I K0)))).trans (moX16_takesImports e32)).trans (ih.2.2 x0 x1 y23 v31 hi)
      · have hf := pm_ie hf c18
        obtain ⟨k33, hf⟩ := pm_if hf
        obtain ⟨v34, e35, hf⟩ := pm_bd hf
        by_cases c36 : v34 = 0
        · have hf := pm_it hf c36
          obtain ⟨v37, e38, hf⟩ := pm_bd hf
          obtain ⟨k39, hf⟩ := pm_if hf
          obtain ⟨u40, hf⟩ := pm_if hf
          have hf := Option.some.inj hf
          subst hf
          have hi := Option.some.inj (show some _ = some r from hi)
          subst hi
          exact pm_S3.le K0
        · have hf := pm_ie hf c36
          obtain ⟨v41, e42, hf⟩ := pm_bd hf
          obtain ⟨k43, hf⟩ := pm_if hf
          obtain ⟨u44, hf⟩ := pm_if hf
          by_cases c45 : (pm_I h v41 x5.toNatClampNeg) = (-1)
          · have hf := pm_it hf c45
            obtain ⟨y46, e47, hf⟩ := pm_lt hf
            obtain ⟨y48, e49, hf⟩ := pm_lt hf
            cases hf
            exact (pm_S3.le K0).trans (ih.2.1 x0 x1 x2 y46 y48 h hi)
          · have hf := pm_ie hf c45
            obtain ⟨y50, e51, hf⟩ := pm_lt hf
            obtain ⟨y52, e53, hf⟩ := pm_lt hf
            cases hf
            exact (pm_S3.le K0).trans (ih.2.1 x0 x1 x2 y50 y52 h hi)
    refine fun x0 x1 x5 h hf => ?_
    obtain ⟨y, hf, hi⟩ := pm_iter_s hf
    have hf : tX16_make_164 x0 x1 x5 h = some y := hf
    unfold tX16_make_164 at hf
    have K0 := pm_S3.rf h
    obtain ⟨k54, hf⟩ := pm_if hf
    obtain ⟨v55, e56, hf⟩ := pm_bd hf
    have K57 := pm_S3.trans (kpX16_takesOwn e56) K0
    obtain ⟨k58, hf⟩ := pm_if hf
    obtain ⟨v59, e60, hf⟩ := pm_bd hf
    have K61 := pm_S3.trans (kpX16_startsUp e60) K57
    have hf := Option.some.inj hf
    subst hf
    have hi := Option.some.inj (show some _ = some r from hi)
    subst hi
    exact pm_S3.le K61
set_option maxHeartbeats 4000000 in
set_option maxRecDepth 100000 in
theorem moX16_make {h : pm_H} {a0 : Nat} {p1 : Int32} {r : (Int32 × pm_H)} (hf : fX16_make h a0 p1 = some r) : pm_Le h r.2 := by
  unfold fX16_make at hf
  have K0 := pm_S3.rf h
  obtain ⟨n, hn⟩ := pm_lim_iter hf
  exact (mlX16_make n).1 a0 p1 h hn
set_option maxHeartbeats 4000000 in
set_option maxRecDepth 100000 in
theorem lpX16_make {g : pm_Gm} {l : Launch} {G : pm_Gl} {Qr : Option Value → pm_H → Prop} (C : pm_C g cX16_make RX16) {h0 : pm_H} {r : (Int32 × pm_H)} (X : pm_X g l G mX16_make (pm_sz r.2 - pm_sz h0) (pm_us r.2 - pm_us h0) Qr) (q : Qr (some (.int r.1)) r.2) : ∀ n : Nat, (∀ (x0 : Nat) (x1 : Int32) (h : pm_H), pm_Le h0 h → pm_iter sX16_make n (.inl (x0, x1, h)) = some r → pm_G g 0 [(0, .ref x0), (1, .int x1)] [] h (pm_sz h - pm_sz h0) (pm_us h - pm_us h0)) ∧ (∀ (x0 : Nat) (x1 : Int32) (x2 : Nat) (x4 : Int32) (x5 : Int32) (h : pm_H), pm_Le h0 h → pm_iter sX16_make n (.inr (.inl (x0, x1, x2, x4, x5, h))) = some r → pm_G g 58 [(0, .ref x0), (1, .int x1), (2, .ref x2), (4, .int x4), (5, .int x5)] [] h (pm_sz h - pm_sz h0) (pm_us h - pm_us h0)) ∧ (∀ (x0 : Nat) (x1 : Int32) (x5 : Int32) (h : pm_H), pm_Le h0 h → pm_iter sX16_make n (.inr (.inr (x0, x1, x5, h))) = some r → pm_G g 164 [(0, .ref x0), (1, .int x1), (5, .int x5)] [] h (pm_sz h - pm_sz h0) (pm_us h - pm_us h0)) := by
  intro n
  induction n with
  | zero => exact ⟨fun _ _ _ _ hf => (by cases hf), fun _ _ _ _ _ _ _ hf => (by cases hf), fun _ _ _ _ _ hf => (by cases hf)⟩
  | succ n ih =>
    refine ⟨fun x0 x1 h m0 hf => ?_, ?_⟩
    · have le0 := (mlX16_make (n + 1)).1 x0 x1 h hf
      have kc1 := Nat.sub_le_sub_right le0.1 (pm_sz h0)
      have kc2 := Nat.sub_le_sub_right le0.2 (pm_us h0)
      have K0 := pm_S3.rf h
      obtain ⟨y, hf, hi⟩ := pm_iter_s hf
      have hf : tX16_make_0 x0 x1 h = some y := hf
      unfold tX16_make_0 at hf
      refine pm_iload_n C dX16_make_0 rfl rfl ?_
      refine pm_if_lt (tgt := 12) C dX16_make_1 (by decide) (fun c1 => ?_) (fun c1 => ?_)
      · have hf := pm_it hf c1
        refine pm_iconst (v := (-1)) C dX16_make_12 (by decide) ?_
        have hf := Option.some.inj hf
        subst hf
        have hi := Option.some.inj (show some _ = some r from hi)
        subst hi
        exact pm_iret C X dX16_make_13 rfl kc1 kc2 q
      · have hf := pm_ie hf c1
        refine pm_iload_n C dX16_make_4 rfl rfl ?_
        refine pm_aload_n C dX16_make_5 rfl rfl ?_
        obtain ⟨k2, hf⟩ := pm_if hf
        refine pm_getI C dX16_make_6 flX16_218 rfl k2 rfl ?_
        refine pm_icmp_lt (tgt := 14) C dX16_make_9 (by decide) (fun c3 => ?_) (fun c3 => ?_)
        · have hf := pm_it hf c3
          refine pm_aload_n C dX16_make_14 rfl rfl ?_
          obtain ⟨v4, e5, hf⟩ := pm_bd hf
          refine pm_callV (as := []) (st := []) C X dX16_make_15 lnX16_986 myX16_runs viX16_runs ⟨by decide, by decide⟩ rfl rfl k2 (Nat.le_of_ble_eq_true rfl) kc1 kc2 (ctX16_runs e5 ?_)
          show pm_G g 18 [(0, .ref x0), (1, .int x1)] [.int v4] h (pm_sz h - pm_sz h0) (pm_us h - pm_us h0)
          refine pm_if_eq (tgt := 24) C dX16_make_18 (by decide) (fun c6 => ?_) (fun c6 => ?_)
          · have hf := pm_it hf c6
            refine pm_aload_n C dX16_make_24 rfl rfl ?_
            obtain ⟨v7, e8, hf⟩ := pm_bd hf
            refine pm_getR C dX16_make_25 flX16_16 rfl k2 e8 ?_
            refine pm_iload_n C dX16_make_28 rfl rfl ?_
            obtain ⟨k9, hf⟩ := pm_if hf
            obtain ⟨u10, hf⟩ := pm_if hf
            obtain ⟨v11, e12, hf⟩ := pm_bd hf
            refine pm_ald (t := 10) C dX16_make_29 (by decide) rfl k9 u10 e12 ?_
            refine pm_astore_n (lv' := [(2, .ref v11), (0, .ref x0), (1, .int x1)]) C dX16_make_30 rfl (pm_nl X (by decide)) rfl ?_
            refine pm_aload_n C dX16_make_31 rfl rfl ?_
            refine pm_getI C dX16_make_32 flX16_967 rfl k2 rfl ?_
            obtain ⟨y13, e14, hf⟩ := pm_lt hf
            refine pm_topI e14 ?_
            refine pm_istore_n (lv' := [(3, .int y13), (2, .ref v11), (0, .ref x0), (1, .int x1)]) C dX16_make_35 rfl (pm_nl X (by decide)) rfl ?_
            refine pm_aload_n C dX16_make_36 rfl rfl ?_
            refine pm_iconst (v := 0) C dX16_make_37 (by decide) ?_
            refine pm_putI C dX16_make_38 flX16_967 rfl rfl k2 rfl rfl ?_
            refine pm_iload_n C dX16_make_41 rfl rfl ?_
            refine pm_aload_n C dX16_make_42 rfl rfl ?_
            obtain ⟨k15, hf⟩ := pm_if hf
            refine pm_getI C dX16_make_43 flX16_402 rfl k15 rfl ?_
            refine pm_icmp_eq (tgt := 52) C dX16_make_46 (by decide) (fun c16 => ?_) (fun c16 => ?_)
            · have hf := pm_it hf c16
              refine pm_iconst (v := 0) C dX16_make_52 (by decide) ?_
              refine pm_istore (lv' := [(4, .int 0), (3, .int y13), (2, .ref v11), (0, .ref x0), (1, .int x1)]) C dX16_make_53 (pm_nl X (by decide)) rfl ?_
              refine pm_iconst (v := 0) C dX16_make_55 (by decide) ?_
              refine pm_istore (lv' := [(5, .int 0), (4, .int 0), (3, .int y13), (2, .ref v11), (0, .ref x0), (1, .int x1)]) C dX16_make_56 (pm_nl X (by decide)) rfl ?_
              cases hf
              exact pa_join (pm_S3I K0) (pm_sub [4, 5, 3, 1, 0] rfl (ih.2.1 x0 x1 v11 0 0 (pm_setI h x0 73 0) (m0.trans (pm_S3.le (pm_S3I K0))) hi))
            · have hf := pm_ie hf c16
              refine pm_bipush (v := (-2)) C dX16_make_49 (by decide) ?_
              have hf := Option.some.inj hf
              subst hf
              have hi := Option.some.inj (show some _ = some r from hi)
              subst hi
              exact pm_iret C X dX16_make_51 rfl kc1 kc2 q
          · have hf := pm_ie hf c6
            refine pm_bipush (v := (-10)) C dX16_make_21 (by decide) ?_
            have hf := Option.some.inj hf
            subst hf
            have hi := Option.some.inj (show some _ = some r from hi)
            subst hi
            exact pm_iret C X dX16_make_23 rfl kc1 kc2 q
        · have hf := pm_ie hf c3
          refine pm_iconst (v := (-1)) C dX16_make_12 (by decide) ?_
          have hf := Option.some.inj hf
          subst hf
          have hi := Option.some.inj (show some _ = some r from hi)
          subst hi
          exact pm_iret C X dX16_make_13 rfl kc1 kc2 q
    refine ⟨fun x0 x1 x2 x4 x5 h m0 hf => ?_, ?_⟩
    · have le0 := (mlX16_make (n + 1)).2.1 x0 x1 x2 x4 x5 h hf
      have kc1 := Nat.sub_le_sub_right le0.1 (pm_sz h0)
      have kc2 := Nat.sub_le_sub_right le0.2 (pm_us h0)
      have K0 := pm_S3.rf h
      obtain ⟨y, hf, hi⟩ := pm_iter_s hf
      have hf : tX16_make_58 x0 x1 x2 x4 x5 h = some y := hf
      unfold tX16_make_58 at hf
      refine pm_iload C dX16_make_58 rfl ?_
      refine pm_aload_n C dX16_make_60 rfl rfl ?_
      obtain ⟨k17, hf⟩ := pm_if hf
      refine pm_getI C dX16_make_61 flX16_402 rfl k17 rfl ?_
      refine pm_icmp_ge (tgt := 115) C dX16_make_64 (by decide) (fun c18 => ?_) (fun c18 => ?_)
      · have hf := pm_it hf c18
        refine pm_aload_n C dX16_make_115 rfl rfl ?_
        refine pm_aload_n C dX16_make_116 rfl rfl ?_
        refine pm_iload C dX16_make_117 rfl ?_
        obtain ⟨k19, hf⟩ := pm_if hf
        obtain ⟨v20, e21, hf⟩ := pm_bd hf
        refine pm_callV (as := [.ref x2, .int x4]) (st := []) C X dX16_make_119 lnX16_992 myX16_hasRoom viX16_hasRoom ⟨by decide, by decide⟩ rfl rfl k19 (Nat.le_of_ble_eq_true rfl) kc1 kc2 (ctX16_hasRoom e21 ?_)
        show pm_G g 122 [(0, .ref x0), (1, .int x1), (2, .ref x2), (4, .int x4), (5, .int x5)] [.int v20] h (pm_sz h - pm_sz h0) (pm_us h - pm_us h0)
        refine pm_if_ne (tgt := 128) C dX16_make_122 (by decide) (fun c22 => ?_) (fun c22 => ?_)
        · have hf := pm_ie hf c22
          refine pm_aload_n C dX16_make_128 rfl rfl ?_
          refine pm_getI C dX16_make_129 flX16_949 rfl k19 rfl ?_
          obtain ⟨y23, e24, hf⟩ := pm_lt hf
          refine pm_topI e24 ?_
          refine pm_istore (lv' := [(5, .int y23), (0, .ref x0), (1, .int x1), (2, .ref x2), (4, .int x4)]) C dX16_make_132 (pm_nl X (by decide)) rfl ?_
          refine pm_aload_n C dX16_make_134 rfl rfl ?_
          refine pm_dup C dX16_make_135 rfl ?_
          refine pm_getI C dX16_make_136 flX16_949 rfl k19 rfl ?_
          refine pm_iconst (v := 1) C dX16_make_139 (by decide) ?_
          refine pm_iadd C dX16_make_140 ?_
          obtain ⟨y25, e26, hf⟩ := pm_lt hf
          refine pm_topI e26 ?_
          refine pm_putI C dX16_make_141 flX16_949 rfl rfl k19 rfl rfl ?_
          refine pm_aload_n C dX16_make_144 rfl rfl ?_
          obtain ⟨v27, e28, hf⟩ := pm_bd hf
          refine pm_getR C dX16_make_145 flX16_131 rfl k19 e28 ?_
          refine pm_iload C dX16_make_148 rfl ?_
          refine pm_iload_n C dX16_make_150 rfl rfl ?_
          obtain ⟨k29, hf⟩ := pm_if hf
          obtain ⟨u30, hf⟩ := pm_if hf
          refine pm_iast C dX16_make_151 k29 u30 ?_
          refine pm_aload_n C dX16_make_152 rfl rfl ?_
          refine pm_aload_n C dX16_make_153 rfl rfl ?_
          refine pm_putR C dX16_make_154 flX16_221 rfl rfl k19 ?_
          refine pm_aload_n C dX16_make_157 rfl rfl ?_
          refine pm_iload C dX16_make_158 rfl ?_
          refine pm_iload_n C dX16_make_160 rfl rfl ?_
          obtain ⟨v31, e32, hf⟩ := pm_bd hf
          cases hf
          refine pm_callV (as := [.int y23, .int x1]) (st := []) C X dX16_make_161 lnX16_996 myX16_takesImports viX16_takesImports ⟨by decide, by decide⟩ rfl rfl k19 (Nat.le_of_ble_eq_true rfl) (pa_le1 (pm_S3R (pm_S3I (pm_S3I K0))) m0 (moX16_takesImports e32) ((mlX16_make n).2.2 x0 x1 y23 v31 hi)) (pa_le2 (pm_S3R (pm_S3I (pm_S3I K0))) m0 (moX16_takesImports e32) ((mlX16_make n).2.2 x0 x1 y23 v31 hi)) (ctX16_takesImports e32 ?_)
          show pm_G g 164 [(5, .int y23), (0, .ref x0), (1, .int x1), (2, .ref x2), (4, .int x4)] [] v31 (pm_sz h - pm_sz h0 + (pm_sz v31 - pm_sz (pm_setR (pm_setI (pm_setI h x0 62 y25) v27 y23.toNatClampNeg x1) x0 10 (some x2)))) (pm_us h - pm_us h0 + (pm_us v31 - pm_us (pm_setR (pm_setI (pm_setI h x0 62 y25) v27 y23.toNatClampNeg x1) x0 10 (some x2))))
          refine pa_fin (pm_S3R (pm_S3I (pm_S3I K0))) m0 (moX16_takesImports e32) ?_
          exact pm_sub [1, 2, 0] rfl (ih.2.2 x0 x1 y23 v31 ((m0.trans (pm_S3.le (pm_S3R (pm_S3I (pm_S3I K0))))).trans (moX16_takesImports e32)) hi)
        · have hf := pm_it hf c22
          refine pm_bipush (v := (-9)) C dX16_make_125 (by decide) ?_
          have hf := Option.some.inj hf
          subst hf
          have hi := Option.some.inj (show some _ = some r from hi)
          subst hi
          exact pm_iret C X dX16_make_127 rfl kc1 kc2 q
      · have hf := pm_ie hf c18
        refine pm_aload_n C dX16_make_67 rfl rfl ?_
        refine pm_iload_n C dX16_make_68 rfl rfl ?_
        refine pm_iload C dX16_make_69 rfl ?_
        obtain ⟨k33, hf⟩ := pm_if hf
        obtain ⟨v34, e35, hf⟩ := pm_bd hf
        refine pm_callV (as := [.int x1, .int x5]) (st := []) C X dX16_make_71 lnX16_989 myX16_fits viX16_fits ⟨by decide, by decide⟩ rfl rfl k33 (Nat.le_of_ble_eq_true rfl) kc1 kc2 (ctX16_fits e35 ?_)
        show pm_G g 74 [(0, .ref x0), (1, .int x1), (2, .ref x2), (4, .int x4), (5, .int x5)] [.int v34] h (pm_sz h - pm_sz h0) (pm_us h - pm_us h0)
        refine pm_if_ne (tgt := 88) C dX16_make_74 (by decide) (fun c36 => ?_) (fun c36 => ?_)
        · have hf := pm_ie hf c36
          refine pm_iload C dX16_make_88 rfl ?_
          refine pm_aload_n C dX16_make_90 rfl rfl ?_
          obtain ⟨v37, e38, hf⟩ := pm_bd hf
          refine pm_getR C dX16_make_91 flX16_158 rfl k33 e38 ?_
          refine pm_iload C dX16_make_94 rfl ?_
          obtain ⟨k39, hf⟩ := pm_if hf
          obtain ⟨u40, hf⟩ := pm_if hf
          refine pm_iald C dX16_make_96 k39 u40 rfl ?_
          refine pm_iconst (v := (-1)) C dX16_make_97 (by decide) ?_
          refine pm_icmp_ne (tgt := 105) C dX16_make_98 (by decide) (fun c41 => ?_) (fun c41 => ?_)
          · have hf := pm_ie hf c41
            refine pm_iconst (v := 0) C dX16_make_105 (by decide) ?_
            refine pm_iadd C dX16_make_106 ?_
            obtain ⟨y42, e43, hf⟩ := pm_lt hf
            refine pm_topI e43 ?_
            refine pm_istore (lv' := [(4, .int y42), (0, .ref x0), (1, .int x1), (2, .ref x2), (5, .int x5)]) C dX16_make_107 (pm_nl X (by decide)) rfl ?_
            obtain ⟨y44, e45, hf⟩ := pm_lt hf
            refine pm_iinc (v := y44) (lv' := [(5, .int y44), (4, .int y42), (0, .ref x0), (1, .int x1), (2, .ref x2)]) C dX16_make_109 rfl ((congrArg (x5 + ·) (by decide : Int32.ofInt 1 = 1)).trans e45) (pm_nl X (by decide)) rfl ?_
            refine pm_goto (tgt := 58) C dX16_make_112 (by decide) ?_
            cases hf
            exact pa_join K0 (pm_sub [2, 3, 4, 1, 0] rfl (ih.2.1 x0 x1 x2 y42 y44 h (m0.trans (pm_S3.le K0)) hi))
          · have hf := pm_it hf c41
            refine pm_iconst (v := 1) C dX16_make_101 (by decide) ?_
            refine pm_goto (tgt := 106) C dX16_make_102 (by decide) ?_
            refine pm_iadd C dX16_make_106 ?_
            obtain ⟨y46, e47, hf⟩ := pm_lt hf
            refine pm_topI e47 ?_
            refine pm_istore (lv' := [(4, .int y46), (0, .ref x0), (1, .int x1), (2, .ref x2), (5, .int x5)]) C dX16_make_107 (pm_nl X (by decide)) rfl ?_
            obtain ⟨y48, e49, hf⟩ := pm_lt hf
            refine pm_iinc (v := y48) (lv' := [(5, .int y48), (4, .int y46), (0, .ref x0), (1, .int x1), (2, .ref x2)]) C dX16_make_109 rfl ((congrArg (x5 + ·) (by decide : Int32.ofInt 1 = 1)).trans e49) (pm_nl X (by decide)) rfl ?_
            refine pm_goto (tgt := 58) C dX16_make_112 (by decide) ?_
            cases hf
            exact pa_join K0 (pm_sub [2, 3, 4, 1, 0] rfl (ih.2.1 x0 x1 x2 y46 y48 h (m0.trans (pm_S3.le K0)) hi))
        · have hf := pm_it hf c36
          refine pm_bipush (v := (-3)) C dX16_make_77 (by decide) ?_
          refine pm_aload_n C dX16_make_79 rfl rfl ?_
          obtain ⟨v50, e51, hf⟩ := pm_bd hf
          refine pm_getR C dX16_make_80 flX16_411 rfl k17 e51 ?_
          refine pm_iload C dX16_make_83 rfl ?_
          obtain ⟨k52, hf⟩ := pm_if hf
          obtain ⟨u53, hf⟩ := pm_if hf
          refine pm_iald C dX16_make_85 k52 u53 rfl ?_
          refine pm_isub C dX16_make_86 ?_
          have hf := Option.some.inj hf
          subst hf
          have hi := Option.some.inj (show some _ = some r from hi)
          subst hi
          exact pm_iret C X dX16_make_87 rfl kc1 kc2 q
    refine fun x0 x1 x5 h m0 hf => ?_
    have le0 := (mlX16_make (n + 1)).2.2 x0 x1 x5 h hf
    have kc1 := Nat.sub_le_sub_right le0.1 (pm_sz h0)
    have kc2 := Nat.sub_le_sub_right le0.2 (pm_us h0)
    have K0 := pm_S3.rf h
    obtain ⟨y, hf, hi⟩ := pm_iter_s hf
    have hf : tX16_make_164 x0 x1 x5 h = some y := hf
    unfold tX16_make_164 at hf
    refine pm_aload_n C dX16_make_164 rfl rfl ?_
    refine pm_iload C dX16_make_165 rfl ?_
    refine pm_iload_n C dX16_make_167 rfl rfl ?_
    obtain ⟨k54, hf⟩ := pm_if hf
    obtain ⟨v55, e56, hf⟩ := pm_bd hf
    refine pm_callV (as := [.int x5, .int x1]) (st := []) C X dX16_make_168 lnX16_999 myX16_takesOwn viX16_takesOwn ⟨by decide, by decide⟩ rfl rfl k54 (Nat.le_of_ble_eq_true rfl) kc1 kc2 (ctX16_takesOwn e56 ?_)
    have K57 := pm_S3.trans (kpX16_takesOwn e56) K0
    show pm_G g 171 [(0, .ref x0), (1, .int x1), (5, .int x5)] [] v55 (pm_sz h - pm_sz h0) (pm_us h - pm_us h0)
    refine pm_aload_n C dX16_make_171 rfl rfl ?_
    refine pm_iload C dX16_make_172 rfl ?_
    obtain ⟨k58, hf⟩ := pm_if hf
    obtain ⟨v59, e60, hf⟩ := pm_bd hf
    refine pm_callV (as := [.int x5]) (st := []) C X dX16_make_174 lnX16_1002 myX16_startsUp viX16_startsUp ⟨by decide, by decide⟩ rfl rfl k58 (Nat.le_of_ble_eq_true rfl) kc1 kc2 (ctX16_startsUp e60 ?_)
    have K61 := pm_S3.trans (kpX16_startsUp e60) K57
    show pm_G g 177 [(0, .ref x0), (1, .int x1), (5, .int x5)] [] v59 (pm_sz h - pm_sz h0) (pm_us h - pm_us h0)
    refine pm_iload C dX16_make_177 rfl ?_
    have hf := Option.some.inj hf
    subst hf
    have hi := Option.some.inj (show some _ = some r from hi)
    subst hi
    exact pm_iret C X dX16_make_179 rfl kc1 kc2 q
set_option maxHeartbeats 4000000 in
set_option maxRecDepth 100000 in
theorem ctX16_make {l : Launch} {G : pm_Gl} {h : pm_H} {a0 : Nat} {p1 : Int32} {r : (Int32 × pm_H)} {Qr : Option Value → pm_H → Prop} (hf : fX16_make h a0 p1 = some r) (q : Qr (some (.int r.1)) r.2) : pm_Ct l G mX16_make [.ref a0, .int p1] h (pm_sz r.2 - pm_sz h) (pm_us r.2 - pm_us h) Qr := by
  refine pm_body pnX16 (Nat.le_of_ble_eq_true rfl) (fun g C X => ?_)
  have C : pm_C g cX16_make RX16 := C
  show pm_G g 0 [(0, .ref a0), (1, .int p1)] [] h 0 0
  unfold fX16_make at hf
  obtain ⟨n, hn⟩ := pm_lim_iter hf
  exact pa_start (pm_sub [0, 1] rfl ((lpX16_make C X q n).1 a0 p1 h (pm_Le.rf h) hn))
