theorem dX11_create_0 : decode cX11_create 0 = .ok (.aload_n 0, 1) := by decide +kernel
theorem dX11_create_1 : decode cX11_create 1 = .ok (.getfield 29, 3) := by decide +kernel
theorem dX11_create_4 : decode cX11_create 4 = .ok (.istore 6, 2) := by decide +kernel
theorem dX11_create_6 : decode cX11_create 6 = .ok (.aload_n 0, 1) := by decide +kernel
theorem dX11_create_7 : decode cX11_create 7 = .ok (.dup, 1) := by decide +kernel
theorem dX11_create_8 : decode cX11_create 8 = .ok (.getfield 29, 3) := by decide +kernel
theorem dX11_create_11 : decode cX11_create 11 = .ok (.iconst 1, 1) := by decide +kernel
theorem dX11_create_12 : decode cX11_create 12 = .ok (.iadd, 1) := by decide +kernel
theorem dX11_create_13 : decode cX11_create 13 = .ok (.putfield 29, 3) := by decide +kernel
theorem dX11_create_16 : decode cX11_create 16 = .ok (.aload_n 0, 1) := by decide +kernel
theorem dX11_create_17 : decode cX11_create 17 = .ok (.getfield 13, 3) := by decide +kernel
theorem dX11_create_20 : decode cX11_create 20 = .ok (.iload 6, 2) := by decide +kernel
theorem dX11_create_22 : decode cX11_create 22 = .ok (.iload_n 1, 1) := by decide +kernel
theorem dX11_create_23 : decode cX11_create 23 = .ok (.invokestatic 32, 3) := by decide +kernel
theorem dX11_create_26 : decode cX11_create 26 = .ok (.aload_n 0, 1) := by decide +kernel
theorem dX11_create_27 : decode cX11_create 27 = .ok (.getfield 17, 3) := by decide +kernel
theorem dX11_create_30 : decode cX11_create 30 = .ok (.iload 6, 2) := by decide +kernel
theorem dX11_create_32 : decode cX11_create 32 = .ok (.iconst 0, 1) := by decide +kernel
theorem dX11_create_33 : decode cX11_create 33 = .ok (.invokestatic 32, 3) := by decide +kernel
theorem dX11_create_36 : decode cX11_create 36 = .ok (.aload_n 0, 1) := by decide +kernel
theorem dX11_create_37 : decode cX11_create 37 = .ok (.getfield 20, 3) := by decide +kernel
theorem dX11_create_40 : decode cX11_create 40 = .ok (.iload 6, 2) := by decide +kernel
theorem dX11_create_42 : decode cX11_create 42 = .ok (.lload 4, 2) := by decide +kernel
theorem dX11_create_44 : decode cX11_create 44 = .ok (.invokestatic 38, 3) := by decide +kernel
theorem dX11_create_47 : decode cX11_create 47 = .ok (.aload_n 0, 1) := by decide +kernel
theorem dX11_create_48 : decode cX11_create 48 = .ok (.iload 6, 2) := by decide +kernel
theorem dX11_create_50 : decode cX11_create 50 = .ok (.lload_n 2, 1) := by decide +kernel
theorem dX11_create_51 : decode cX11_create 51 = .ok (.iconst (-1), 1) := by decide +kernel
theorem dX11_create_52 : decode cX11_create 52 = .ok (.invokevirtual 41, 3) := by decide +kernel
theorem dX11_create_55 : decode cX11_create 55 = .ok (.pop, 1) := by decide +kernel
theorem dX11_create_56 : decode cX11_create 56 = .ok (.iload 6, 2) := by decide +kernel
theorem dX11_create_58 : decode cX11_create 58 = .ok (.ireturn, 1) := by decide +kernel
noncomputable def fX11_create_b55 (h : pm_H) (x6 : Int32) (s0 : Int32) : Option (Int32 × pm_H) := some ((x6, h))
noncomputable def fX11_create_b0 (h : pm_H) (x0 : Nat) (x1 : Int32) (x2 : Int64) (x4 : Int64) : Option (Int32 × pm_H) := if pm_kd h x0 = 11 then pm_let (pm_I h x0 0) fun y2 => pm_let ((pm_I h x0 0) + 1) fun y4 => (pm_R (pm_setI h x0 0 y4) x0 2).bind fun v6 => (fX12_setItem (pm_setI h x0 0 y4) v6 y2 x1).bind fun v8 => if pm_kd v8 x0 = 11 then (pm_R v8 x0 3).bind fun v12 => (fX12_setItem v8 v12 y2 0).bind fun v14 => if pm_kd v14 x0 = 11 then (pm_R v14 x0 4).bind fun v18 => (fX12_setItem_ v14 v18 y2 x4).bind fun v20 => if pm_kd v20 x0 = 11 then (fX11_grow v20 x0 y2 x2 (-1)).bind fun v24 => fX11_create_b55 v24.2 y2 v24.1 else none else none else none else none
noncomputable def fX11_create (h : pm_H) (a0 : Nat) (p1 : Int32) (p2 : Int64) (p3 : Int64) : Option (Int32 × pm_H) := fX11_create_b0 h a0 p1 p2 p3
set_option maxHeartbeats 4000000 in
set_option maxRecDepth 100000 in
theorem moX11_create_b55 {h : pm_H} {x6 : Int32} {s0 : Int32} {r : (Int32 × pm_H)} (hf : fX11_create_b55 h x6 s0 = some r) : pm_Le h r.2 := by
  unfold fX11_create_b55 at hf
  have K0 := pm_S3.rf h
  have hf := Option.some.inj hf
  subst hf
  exact pm_S3.le K0
set_option maxHeartbeats 4000000 in
set_option maxRecDepth 100000 in
theorem moX11_create_b0 {h : pm_H} {x0 : Nat} {x1 : Int32} {x2 : Int64} {x4 : Int64} {r : (Int32 × pm_H)} (hf : fX11_create_b0 h x0 x1 x2 x4 = some r) : pm_Le h r.2 := by
  unfold fX11_create_b0 at hf
  have K0 := pm_S3.rf h
  obtain ⟨k1, hf⟩ := pm_if hf
  obtain ⟨y2, e3, hf⟩ := pm_lt hf
  obtain ⟨y4, e5, hf⟩ := pm_lt hf
  obtain ⟨v6, e7, hf⟩ := pm_bd hf
  obtain ⟨v8, e9, hf⟩ := pm_bd hf
  have K10 := pm_S3.trans (kpX12_setItem e9) (pm_S3I K0)
  obtain ⟨k11, hf⟩ := pm_if hf
  obtain ⟨v12, e13, hf⟩ := pm_bd hf
  obtain ⟨v14, e15, hf⟩ := pm_bd hf
  have K16 := pm_S3.trans (kpX12_setItem e15) K10
  obtain ⟨k17, hf⟩ := pm_if hf
  obtain ⟨v18, e19, hf⟩ := pm_bd hf
  obtain ⟨v20, e21, hf⟩ := pm_bd hf
  have K22 := pm_S3.trans (kpX12_setItem_ e21) K16
  obtain ⟨k23, hf⟩ := pm_if hf
  obtain ⟨v24, e25, hf⟩ := pm_bd hf
  exact ((pm_S3.le K22).trans (moX11_grow e25)).trans (moX11_create_b55 hf)
set_option maxHeartbeats 4000000 in
set_option maxRecDepth 100000 in
theorem moX11_create {h : pm_H} {a0 : Nat} {p1 : Int32} {p2 : Int64} {p3 : Int64} {r : (Int32 × pm_H)} (hf : fX11_create h a0 p1 p2 p3 = some r) : pm_Le h r.2 := by
  unfold fX11_create at hf
  have K0 := pm_S3.rf h
  exact (pm_S3.le K0).trans (moX11_create_b0 hf)
set_option maxHeartbeats 4000000 in
set_option maxRecDepth 100000 in
theorem bX11_create_55 {g : pm_Gm} {l : Launch} {G : pm_Gl} {Qr : Option Value → pm_H → Prop} (C : pm_C g cX11_create RX11) {h0 h : pm_H} {x6 : Int32} {s0 : Int32} {r : (Int32 × pm_H)} (X : pm_X g l G mX11_create (pm_sz r.2 - pm_sz h0) (pm_us r.2 - pm_us h0) Qr) (m0 : pm_Le h0 h) (hf : fX11_create_b55 h x6 s0 = some r) (q : Qr (some (.int r.1)) r.2) : pm_G g 55 [(6, .int x6)] [.int s0] h (pm_sz h - pm_sz h0) (pm_us h - pm_us h0) := by
  have le0 := moX11_create_b55 hf
  have kc1 := Nat.sub_le_sub_right le0.1 (pm_sz h0)
  have kc2 := Nat.sub_le_sub_right le0.2 (pm_us h0)
  have K0 := pm_S3.rf h
  unfold fX11_create_b55 at hf
  refine pm_pop C dX11_create_55 rfl ?_
  refine pm_iload C dX11_create_56 rfl ?_
  have hf := Option.some.inj hf
  subst hf
  exact pm_iret C X dX11_create_58 rfl kc1 kc2 q
set_option maxHeartbeats 4000000 in
set_option maxRecDepth 100000 in
theorem bX11_create_0 {g : pm_Gm} {l : Launch} {G : pm_Gl} {Qr : Option Value → pm_H → Prop} (C : pm_C g cX11_create RX11) {h0 h : pm_H} {x0 : Nat} {x1 : Int32} {x2 : Int64} {x4 : Int64} {r : (Int32 × pm_H)} (X : pm_X g l G mX11_create (pm_sz r.2 - pm_sz h0) (pm_us r.2 - pm_us h0) Qr) (m0 : pm_Le h0 h) (hf : fX11_create_b0 h x0 x1 x2 x4 = some r) (q : Qr (some (.int r.1)) r.2) : pm_G g 0 [(0, .ref x0), (1, .int x1), (2, .long x2), (4, .long x4)] [] h (pm_sz h - pm_sz h0) (pm_us h - pm_us h0) := by
  have le0 := moX11_create_b0 hf
  have kc1 := Nat.sub_le_sub_right le0.1 (pm_sz h0)
  have kc2 := Nat.sub_le_sub_right le0.2 (pm_us h0)
  have K0 := pm_S3.rf h
  unfold fX11_create_b0 at hf
  refine pm_aload_n C dX11_create_0 rfl rfl ?_
  obtain ⟨k1, hf⟩ := pm_if hf
  refine pm_getI C dX11_create_1 flX11_29 rfl k1 rfl ?_
  obtain ⟨y2, e3, hf⟩ := pm_lt hf
  refine pm_topI e3 ?_
  refine pm_istore (lv' := [(6, .int y2), (0, .ref x0), (1, .int x1), (2, .long x2), (4, .long x4)]) C dX11_create_4 (pm_nl X (by decide)) rfl ?_
  refine pm_aload_n C dX11_create_6 rfl rfl ?_
  refine pm_dup C dX11_create_7 rfl ?_
  refine pm_getI C dX11_create_8 flX11_29 rfl k1 rfl ?_
  refine pm_iconst (v := 1) C dX11_create_11 (by decide) ?_
  refine pm_iadd C dX11_create_12 ?_
  obtain ⟨y4, e5, hf⟩ := pm_lt hf
  refine pm_topI e5 ?_
  refine pm_putI C dX11_create_13 flX11_29 rfl rfl k1 rfl rfl ?_
  refine pm_aload_n C dX11_create_16 rfl rfl ?_
  obtain ⟨v6, e7, hf⟩ := pm_bd hf
  refine pm_getR C dX11_create_17 flX11_13 rfl k1 e7 ?_
  refine pm_iload C dX11_create_20 rfl ?_
  refine pm_iload_n C dX11_create_22 rfl rfl ?_
  obtain ⟨v8, e9, hf⟩ := pm_bd hf
  refine pm_callS (as := [.ref v6, .int y2, .int x1]) (st := []) C X dX11_create_23 lnX11_32 myX12_setItem stX12_setItem ⟨by decide, by decide⟩ rfl rfl (Nat.le_of_ble_eq_true rfl) kc1 kc2 (ctX12_setItem e9 ?_)
  have K10 := pm_S3.trans (kpX12_setItem e9) (pm_S3I K0)
  show pm_G g 26 [(6, .int y2), (0, .ref x0), (1, .int x1), (2, .long x2), (4, .long x4)] [] v8 (pm_sz h - pm_sz h0) (pm_us h - pm_us h0)
  refine pm_aload_n C dX11_create_26 rfl rfl ?_
  obtain ⟨k11, hf⟩ := pm_if hf
  obtain ⟨v12, e13, hf⟩ := pm_bd hf
  refine pm_getR C dX11_create_27 flX11_17 rfl k11 e13 ?_
  refine pm_iload C dX11_create_30 rfl ?_
  refine pm_iconst (v := 0) C dX11_create_32 (by decide) ?_
  obtain ⟨v14, e15, hf⟩ := pm_bd hf
  refine pm_callS (as := [.ref v12, .int y2, .int 0]) (st := []) C X dX11_create_33 lnX11_32 myX12_setItem stX12_setItem ⟨by decide, by decide⟩ rfl rfl (Nat.le_of_ble_eq_true rfl) kc1 kc2 (ctX12_setItem e15 ?_)
  have K16 := pm_S3.trans (kpX12_setItem e15) K10
  show pm_G g 36 [(6, .int y2), (0, .ref x0), (1, .int x1), (2, .long x2), (4, .long x4)] [] v14 (pm_sz h - pm_sz h0) (pm_us h - pm_us h0)
  refine pm_aload_n C dX11_create_36 rfl rfl ?_
  obtain ⟨k17, hf⟩ := pm_if hf
  obtain ⟨v18, e19, hf⟩ := pm_bd hf
  refine pm_getR C dX11_create_37 flX11_20 rfl k17 e19 ?_
  refine pm_iload C dX11_create_40 rfl ?_
  refine pm_lload C dX11_create_42 rfl ?_
  obtain ⟨v20, e21, hf⟩ := pm_bd hf
  refine pm_callS (as := [.ref v18, .int y2, .long x4]) (st := []) C X dX11_create_44 lnX11_38 myX12_setItem_ stX12_setItem_ ⟨by decide, by decide⟩ rfl rfl (Nat.le_of_ble_eq_true rfl) kc1 kc2 (ctX12_setItem_ e21 ?_)
  have K22 := pm_S3.trans (kpX12_setItem_ e21) K16
  show pm_G g 47 [(6, .int y2), (0, .ref x0), (1, .int x1), (2, .long x2), (4, .long x4)] [] v20 (pm_sz h - pm_sz h0) (pm_us h - pm_us h0)
  refine pm_aload_n C dX11_create_47 rfl rfl ?_
  refine pm_iload C dX11_create_48 rfl ?_
  refine pm_lload_n C dX11_create_50 rfl rfl ?_
  refine pm_iconst (v := (-1)) C dX11_create_51 (by decide) ?_
  obtain ⟨k23, hf⟩ := pm_if hf
  obtain ⟨v24, e25, hf⟩ := pm_bd hf
  refine pm_callV (as := [.int y2, .long x2, .int (-1)]) (st := []) C X dX11_create_52 lnX11_41 myX11_grow viX11_grow ⟨by decide, by decide⟩ rfl rfl k23 (Nat.le_of_ble_eq_true rfl) (pa_le1 K22 m0 (moX11_grow e25) (moX11_create_b55 hf)) (pa_le2 K22 m0 (moX11_grow e25) (moX11_create_b55 hf)) (ctX11_grow e25 ?_)
  show pm_G g 55 [(6, .int y2), (0, .ref x0), (1, .int x1), (2, .long x2), (4, .long x4)] [.int v24.1] v24.2 (pm_sz h - pm_sz h0 + (pm_sz v24.2 - pm_sz v20)) (pm_us h - pm_us h0 + (pm_us v24.2 - pm_us v20))
  refine pa_fin K22 m0 (moX11_grow e25) ?_
  exact pm_sub [0] rfl (bX11_create_55 C X ((m0.trans (pm_S3.le K22)).trans (moX11_grow e25)) hf q)
set_option maxHeartbeats 4000000 in
set_option maxRecDepth 100000 in
theorem ctX11_create {l : Launch} {G : pm_Gl} {h : pm_H} {a0 : Nat} {p1 : Int32} {p2 : Int64} {p3 : Int64} {r : (Int32 × pm_H)} {Qr : Option Value → pm_H → Prop} (hf : fX11_create h a0 p1 p2 p3 = some r) (q : Qr (some (.int r.1)) r.2) : pm_Ct l G mX11_create [.ref a0, .int p1, .long p2, .long p3] h (pm_sz r.2 - pm_sz h) (pm_us r.2 - pm_us h) Qr := by
  refine pm_body pnX11 (Nat.le_of_ble_eq_true rfl) (fun g C X => ?_)
  have C : pm_C g cX11_create RX11 := C
  show pm_G g 0 [(0, .ref a0), (1, .int p1), (2, .long p2), (4, .long p3)] [] h 0 0
  unfold fX11_create at hf
  exact pa_start (pm_sub [0, 1, 2, 3] rfl (bX11_create_0 C X (pm_Le.rf h) hf q))
theorem dX12_answer_0 : decode cX12_answer 0 = .ok (.aload_n 0, 1) := by decide +kernel
theorem dX12_answer_1 : decode cX12_answer 1 = .ok (.getfield 61, 3) := by decide +kernel
theorem dX12_answer_4 : decode cX12_answer 4 = .ok (.getfield 208, 3) := by decide +kernel
theorem dX12_answer_7 : decode cX12_answer 7 = .ok (.iconst 5, 1) := by decide +kernel
theorem dX12_answer_8 : decode cX12_answer 8 = .ok (.if_icmp .eq 5, 3) := by decide +kernel
theorem dX12_answer_11 : decode cX12_answer 11 = .ok (.iconst 0, 1) := by decide +kernel
theorem dX12_answer_12 : decode cX12_answer 12 = .ok (.ireturn, 1) := by decide +kernel
theorem dX12_answer_13 : decode cX12_answer 13 = .ok (.aload_n 0, 1) := by decide +kernel
theorem dX12_answer_14 : decode cX12_answer 14 = .ok (.getfield 52, 3) := by decide +kernel
theorem dX12_answer_17 : decode cX12_answer 17 = .ok (.aload_n 0, 1) := by decide +kernel
theorem dX12_answer_18 : decode cX12_answer 18 = .ok (.getfield 61, 3) := by decide +kernel
theorem dX12_answer_21 : decode cX12_answer 21 = .ok (.getfield 211, 3) := by decide +kernel
theorem dX12_answer_24 : decode cX12_answer 24 = .ok (.invokevirtual 194, 3) := by decide +kernel
theorem dX12_answer_27 : decode cX12_answer 27 = .ok (.astore_n 1, 1) := by decide +kernel
theorem dX12_answer_28 : decode cX12_answer 28 = .ok (.aload_n 0, 1) := by decide +kernel
theorem dX12_answer_29 : decode cX12_answer 29 = .ok (.aload_n 1, 1) := by decide +kernel
theorem dX12_answer_30 : decode cX12_answer 30 = .ok (.iconst 2, 1) := by decide +kernel
theorem dX12_answer_31 : decode cX12_answer 31 = .ok (.aload_n 1, 1) := by decide +kernel
theorem dX12_answer_32 : decode cX12_answer 32 = .ok (.iconst 0, 1) := by decide +kernel
theorem dX12_answer_33 : decode cX12_answer 33 = .ok (.invokestatic 181, 3) := by decide +kernel
theorem dX12_answer_36 : decode cX12_answer 36 = .ok (.iadd, 1) := by decide +kernel
theorem dX12_answer_37 : decode cX12_answer 37 = .ok (.aload_n 1, 1) := by decide +kernel
theorem dX12_answer_38 : decode cX12_answer 38 = .ok (.iconst 1, 1) := by decide +kernel
theorem dX12_answer_39 : decode cX12_answer 39 = .ok (.invokestatic 181, 3) := by decide +kernel
theorem dX12_answer_42 : decode cX12_answer 42 = .ok (.invokevirtual 198, 3) := by decide +kernel
theorem dX12_answer_45 : decode cX12_answer 45 = .ok (.ifCond .ne 5, 3) := by decide +kernel
theorem dX12_answer_48 : decode cX12_answer 48 = .ok (.iconst 0, 1) := by decide +kernel
theorem dX12_answer_49 : decode cX12_answer 49 = .ok (.ireturn, 1) := by decide +kernel
theorem dX12_answer_50 : decode cX12_answer 50 = .ok (.aload_n 0, 1) := by decide +kernel
theorem dX12_answer_51 : decode cX12_answer 51 = .ok (.getfield 61, 3) := by decide +kernel
theorem dX12_answer_54 : decode cX12_answer 54 = .ok (.aload_n 0, 1) := by decide +kernel
theorem dX12_answer_55 : decode cX12_answer 55 = .ok (.getfield 24, 3) := by decide +kernel
theorem dX12_answer_58 : decode cX12_answer 58 = .ok (.aload_n 0, 1) := by decide +kernel
theorem dX12_answer_59 : decode cX12_answer 59 = .ok (.getfield 191, 3) := by decide +kernel
theorem dX12_answer_62 : decode cX12_answer 62 = .ok (.invokevirtual 214, 3) := by decide +kernel
theorem dX12_answer_65 : decode cX12_answer 65 = .ok (.aload_n 0, 1) := by decide +kernel
theorem dX12_answer_66 : decode cX12_answer 66 = .ok (.iconst 0, 1) := by decide +kernel
theorem dX12_answer_67 : decode cX12_answer 67 = .ok (.putfield 191, 3) := by decide +kernel
theorem dX12_answer_70 : decode cX12_answer 70 = .ok (.iconst 1, 1) := by decide +kernel
theorem dX12_answer_71 : decode cX12_answer 71 = .ok (.ireturn, 1) := by decide +kernel
noncomputable def fX12_answer_b65 (h : pm_H) (x0 : Nat) : Option (Int32 × pm_H) := if pm_kd h x0 = 12 then some ((1, pm_setI h x0 15 0)) else none
noncomputable def fX12_answer_b0 (h : pm_H) (x0 : Nat) : Option (Int32 × pm_H) := if pm_kd h x0 = 12 then (pm_R h x0 11).bind fun v2 => if pm_kd h v2 = 5 then if (pm_I h v2 0) = 5 then ((pm_R h x0 10).bind fun v6 => if pm_kd h v6 = 10 then (fX10_shapeOf h v6 (pm_I h v2 4)).bind fun v9 => (fX12_item h v9 0).bind fun v11 => (fX12_item h v9 1).bind fun v13 => (fX12_argumentsAre h x0 v9 (2 + v11) v13).bind fun v15 => if v15 = 0 then (some ((0, h))) else ((pm_R h x0 14).bind fun v18 => (fX5_goOn h v2 v18 (pm_I h x0 15)).bind fun v20 => fX12_answer_b65 v20 x0) else none) else (some ((0, h))) else none else none
noncomputable def fX12_answer (h : pm_H) (a0 : Nat) : Option (Int32 × pm_H) := fX12_answer_b0 h a0
set_option maxHeartbeats 4000000 in
set_option maxRecDepth 100000 in
theorem moX12_answer_b65 {h : pm_H} {x0 : Nat} {r : (Int32 × pm_H)} (hf : fX12_answer_b65 h x0 = some r) : pm_Le h r.2 := by
  unfold fX12_answer_b65 at hf
  have K0 := pm_S3.rf h
  obtain ⟨k22, hf⟩ := pm_if hf
  have hf := Option.some.inj hf
  subst hf
  exact pm_S3.le (pm_S3I K0)
set_option maxHeartbeats 4000000 in
set_option maxRecDepth 100000 in
theorem moX12_answer_b0 {h : pm_H} {x0 : Nat} {r : (Int32 × pm_H)} (hf : fX12_answer_b0 h x0 = some r) : pm_Le h r.2 := by
  unfold fX12_answer_b0 at hf
  have K0 := pm_S3.rf h
  obtain ⟨k1, hf⟩ := pm_if hf
  obtain ⟨v2, e3, hf⟩ := pm_bd hf
  obtain ⟨k4, hf⟩ := pm_if hf
  by_cases c5 : (pm_I h v2 0) = 5
  · have hf := pm_it hf c5
    obtain ⟨v6, e7, hf⟩ := pm_bd hf
    obtain ⟨k8, hf⟩ := pm_if hf
    obtain ⟨v9, e10, hf⟩ := pm_bd hf
    obtain ⟨v11, e12, hf⟩ := pm_bd hf
    obtain ⟨v13, e14, hf⟩ := pm_bd hf
    obtain ⟨v15, e16, hf⟩ := pm_bd hf
    by_cases c17 : v15 = 0
    · have hf := pm_it hf c17
      have hf := Option.some.inj hf
      subst hf
      exact pm_S3.le K0
    · have hf := pm_ie hf c17
      obtain ⟨v18, e19, hf⟩ := pm_bd hf
      obtain ⟨v20, e21, hf⟩ := pm_bd hf
      exact ((pm_S3.le K0).trans (moX5_goOn e21)).trans (moX12_answer_b65 hf)
  · have hf := pm_ie hf c5
    have hf := Option.some.inj hf
    subst hf
    exact pm_S3.le K0
set_option maxHeartbeats 4000000 in
set_option maxRecDepth 100000 in
theorem moX12_answer {h : pm_H} {a0 : Nat} {r : (Int32 × pm_H)} (hf : fX12_answer h a0 = some r) : pm_Le h r.2 := by
  unfold fX12_answer at hf
  have K0 := pm_S3.rf h
  exact (pm_S3.le K0).trans (moX12_answer_b0 hf)
set_option maxHeartbeats 4000000 in
set_option maxRecDepth 100000 in
theorem bX12_answer_65 {g : pm_Gm} {l : Launch} {G : pm_Gl} {Qr : Option Value → pm_H → Prop} (C : pm_C g cX12_answer RX12) {h0 h : pm_H} {x0 : Nat} {r : (Int32 × pm_H)} (X : pm_X g l G mX12_answer (pm_sz r.2 - pm_sz h0) (pm_us r.2 - pm_us h0) Qr) (m0 : pm_Le h0 h) (hf : fX12_answer_b65 h x0 = some r) (q : Qr (some (.int r.1)) r.2) : pm_G g 65 [(0, .ref x0)] [] h (pm_sz h - pm_sz h0) (pm_us h - pm_us h0) := by
  have le0 := moX12_answer_b65 hf
  have kc1 := Nat.sub_le_sub_right le0.1 (pm_sz h0)
  have kc2 := Nat.sub_le_sub_right le0.2 (pm_us h0)
  have K0 := pm_S3.rf h
  unfold fX12_answer_b65 at hf
  refine pm_aload_n C dX12_answer_65 rfl rfl ?_
  refine pm_iconst (v := 0) C dX12_answer_66 (by decide) ?_
  obtain ⟨k22, hf⟩ := pm_if hf
  refine pm_putI C dX12_answer_67 flX12_191 rfl rfl k22 rfl rfl ?_
  refine pm_iconst (v := 1) C dX12_answer_70 (by decide) ?_
  have hf := Option.some.inj hf
  subst hf
  exact pm_zret C X dX12_answer_71 rfl (by decide) kc1 kc2 q
set_option maxHeartbeats 4000000 in
set_option maxRecDepth 100000 in
theorem bX12_answer_0 {g : pm_Gm} {l : Launch} {G : pm_Gl} {Qr : Option Value → pm_H → Prop} (C : pm_C g cX12_answer RX12) {h0 h : pm_H} {x0 : Nat} {r : (Int32 × pm_H)} (X : pm_X g l G mX12_answer (pm_sz r.2 - pm_sz h0) (pm_us r.2 - pm_us h0) Qr) (m0 : pm_Le h0 h) (hf : fX12_answer_b0 h x0 = some r) (q : Qr (some (.int r.1)) r.2) : pm_G g 0 [(0, .ref x0)] [] h (pm_sz h - pm_sz h0) (pm_us h - pm_us h0) := by
  have le0 := moX12_answer_b0 hf
  have kc1 := Nat.sub_le_sub_right le0.1 (pm_sz h0)
  have kc2 := Nat.sub_le_sub_right le0.2 (pm_us h0)
  have K0 := pm_S3.rf h
  unfold fX12_answer_b0 at hf
  refine pm_aload_n C dX12_answer_0 rfl rfl ?_
  obtain ⟨k1, hf⟩ := pm_if hf
  obtain ⟨v2, e3, hf⟩ := pm_bd hf
  refine pm_getR C dX12_answer_1 flX12_61 rfl k1 e3 ?_
  obtain ⟨k4, hf⟩ := pm_if hf
  refine pm_getI C dX12_answer_4 flX12_208 rfl k4 rfl ?_
  refine pm_iconst (v := 5) C dX12_answer_7 (by decide) ?_
  refine pm_icmp_eq (tgt := 13) C dX12_answer_8 (by decide) (fun c5 => ?_) (fun c5 => ?_)
  · have hf := pm_it hf c5
    refine pm_aload_n C dX12_answer_13 rfl rfl ?_
    obtain ⟨v6, e7, hf⟩ := pm_bd hf
    refine pm_getR C dX12_answer_14 flX12_52 rfl k1 e7 ?_
    refine pm_aload_n C dX12_answer_17 rfl rfl ?_
    refine pm_getR C dX12_answer_18 flX12_61 rfl k1 e3 ?_
    refine pm_getI C dX12_answer_21 flX12_211 rfl k4 rfl ?_
    obtain ⟨k8, hf⟩ := pm_if hf
    obtain ⟨v9, e10, hf⟩ := pm_bd hf
    refine pm_callV (as := [.int (pm_I h v2 4)]) (st := []) C X dX12_answer_24 lnX12_194 myX10_shapeOf viX10_shapeOf ⟨by decide, by decide⟩ rfl rfl k8 (Nat.le_of_ble_eq_true rfl) kc1 kc2 (ctX10_shapeOf e10 ?_)
    show pm_G g 27 [(0, .ref x0)] [.ref v9] h (pm_sz h - pm_sz h0) (pm_us h - pm_us h0)
    refine pm_astore_n (lv' := [(1, .ref v9), (0, .ref x0)]) C dX12_answer_27 rfl (pm_nl X (by decide)) rfl ?_
    refine pm_aload_n C dX12_answer_28 rfl rfl ?_
    refine pm_aload_n C dX12_answer_29 rfl rfl ?_
    refine pm_iconst (v := 2) C dX12_answer_30 (by decide) ?_
    refine pm_aload_n C dX12_answer_31 rfl rfl ?_
    refine pm_iconst (v := 0) C dX12_answer_32 (by decide) ?_
    obtain ⟨v11, e12, hf⟩ := pm_bd hf
    refine pm_callS (as := [.ref v9, .int 0]) (st := [.int 2, .ref v9, .ref x0]) C X dX12_answer_33 lnX12_181 myX12_item stX12_item ⟨by decide, by decide⟩ rfl rfl (Nat.le_of_ble_eq_true rfl) kc1 kc2 (ctX12_item e12 ?_)
    show pm_G g 36 [(1, .ref v9), (0, .ref x0)] [.int v11, .int 2, .ref v9, .ref x0] h (pm_sz h - pm_sz h0) (pm_us h - pm_us h0)
    refine pm_iadd C dX12_answer_36 ?_
    refine pm_aload_n C dX12_answer_37 rfl rfl ?_
    refine pm_iconst (v := 1) C dX12_answer_38 (by decide) ?_
    obtain ⟨v13, e14, hf⟩ := pm_bd hf
    refine pm_callS (as := [.ref v9, .int 1]) (st := [.int (2 + v11), .ref v9, .ref x0]) C X dX12_answer_39 lnX12_181 myX12_item stX12_item ⟨by decide, by decide⟩ rfl rfl (Nat.le_of_ble_eq_true rfl) kc1 kc2 (ctX12_item e14 ?_)
    show pm_G g 42 [(1, .ref v9), (0, .ref x0)] [.int v13, .int (2 + v11), .ref v9, .ref x0] h (pm_sz h - pm_sz h0) (pm_us h - pm_us h0)
    obtain ⟨v15, e16, hf⟩ := pm_bd hf
    refine pm_callV (as := [.ref v9, .int (2 + v11), .int v13]) (st := []) C X dX12_answer_42 lnX12_198 myX12_argumentsAre viX12_argumentsAre ⟨by decide, by decide⟩ rfl rfl k1 (Nat.le_of_ble_eq_true rfl) kc1 kc2 (ctX12_argumentsAre e16 ?_)
    show pm_G g 45 [(1, .ref v9), (0, .ref x0)] [.int v15] h (pm_sz h - pm_sz h0) (pm_us h - pm_us h0)
    refine pm_if_ne (tgt := 50) C dX12_answer_45 (by decide) (fun c17 => ?_) (fun c17 => ?_)
    · have hf := pm_ie hf c17
      refine pm_aload_n C dX12_answer_50 rfl rfl ?_
      refine pm_getR C dX12_answer_51 flX12_61 rfl k1 e3 ?_
      refine pm_aload_n C dX12_answer_54 rfl rfl ?_
      obtain ⟨v18, e19, hf⟩ := pm_bd hf
      refine pm_getR C dX12_answer_55 flX12_24 rfl k1 e19 ?_
      refine pm_aload_n C dX12_answer_58 rfl rfl ?_
      refine pm_getI C dX12_answer_59 flX12_191 rfl k1 rfl ?_
      obtain ⟨v20, e21, hf⟩ := pm_bd hf
      refine pm_callV (as := [.ref v18, .int (pm_I h x0 15)]) (st := []) C X dX12_answer_62 lnX12_214 myX5_goOn viX5_goOn ⟨by decide, by decide⟩ rfl rfl k4 (Nat.le_of_ble_eq_true rfl) (pa_le1 K0 m0 (moX5_goOn e21) (moX12_answer_b65 hf)) (pa_le2 K0 m0 (moX5_goOn e21) (moX12_answer_b65 hf)) (ctX5_goOn e21 ?_)
      show pm_G g 65 [(1, .ref v9), (0, .ref x0)] [] v20 (pm_sz h - pm_sz h0 + (pm_sz v20 - pm_sz h)) (pm_us h - pm_us h0 + (pm_us v20 - pm_us h))
      refine pa_fin K0 m0 (moX5_goOn e21) ?_
      exact pm_sub [1] rfl (bX12_answer_65 C X ((m0.trans (pm_S3.le K0)).trans (moX5_goOn e21)) hf q)
    · have hf := pm_it hf c17
      refine pm_iconst (v := 0) C dX12_answer_48 (by decide) ?_
      have hf := Option.some.inj hf
      subst hf
      exact pm_zret C X dX12_answer_49 rfl (by decide) kc1 kc2 q
  · have hf := pm_ie hf c5
    refine pm_iconst (v := 0) C dX12_answer_11 (by decide) ?_
    have hf := Option.some.inj hf
    subst hf
    exact pm_zret C X dX12_answer_12 rfl (by decide) kc1 kc2 q
set_option maxHeartbeats 4000000 in
set_option maxRecDepth 100000 in
theorem ctX12_answer {l : Launch} {G : pm_Gl} {h : pm_H} {a0 : Nat} {r : (Int32 × pm_H)} {Qr : Option Value → pm_H → Prop} (hf : fX12_answer h a0 = some r) (q : Qr (some (.int r.1)) r.2) : pm_Ct l G mX12_answer [.ref a0] h (pm_sz r.2 - pm_sz h) (pm_us r.2 - pm_us h) Qr := by
  refine pm_body pnX12 (Nat.le_of_ble_eq_true rfl) (fun g C X => ?_)
  have C : pm_C g cX12_answer RX12 := C
  show pm_G g 0 [(0, .ref a0)] [] h 0 0
  unfold fX12_answer at hf
  exact pa_start (pm_sub [0] rfl (bX12_answer_0 C X (pm_Le.rf h) hf q))
theorem dX12_call_0 : decode cX12_call 0 = .ok (.aload_n 0, 1) := by decide +kernel
theorem dX12_call_1 : decode cX12_call 1 = .ok (.getfield 52, 3) := by decide +kernel
theorem dX12_call_4 : decode cX12_call 4 = .ok (.iload_n 1, 1) := by decide +kernel
theorem dX12_call_5 : decode cX12_call 5 = .ok (.invokevirtual 139, 3) := by decide +kernel
theorem dX12_call_8 : decode cX12_call 8 = .ok (.astore_n 3, 1) := by decide +kernel
theorem dX12_call_9 : decode cX12_call 9 = .ok (.aload_n 0, 1) := by decide +kernel
theorem dX12_call_10 : decode cX12_call 10 = .ok (.getfield 61, 3) := by decide +kernel
theorem dX12_call_13 : decode cX12_call 13 = .ok (.invokevirtual 156, 3) := by decide +kernel
theorem dX12_call_16 : decode cX12_call 16 = .ok (.ifCond .ne 11, 3) := by decide +kernel
theorem dX12_call_19 : decode cX12_call 19 = .ok (.aload_n 3, 1) := by decide +kernel
theorem dX12_call_20 : decode cX12_call 20 = .ok (.iload_n 2, 1) := by decide +kernel
theorem dX12_call_21 : decode cX12_call 21 = .ok (.invokevirtual 143, 3) := by decide +kernel
theorem dX12_call_24 : decode cX12_call 24 = .ok (.ifCond .eq 5, 3) := by decide +kernel
theorem dX12_call_27 : decode cX12_call 27 = .ok (.iconst 0, 1) := by decide +kernel
theorem dX12_call_28 : decode cX12_call 28 = .ok (.ireturn, 1) := by decide +kernel
theorem dX12_call_29 : decode cX12_call 29 = .ok (.aload_n 3, 1) := by decide +kernel
theorem dX12_call_30 : decode cX12_call 30 = .ok (.iload_n 2, 1) := by decide +kernel
theorem dX12_call_31 : decode cX12_call 31 = .ok (.invokevirtual 149, 3) := by decide +kernel
theorem dX12_call_34 : decode cX12_call 34 = .ok (.istore 4, 2) := by decide +kernel
theorem dX12_call_36 : decode cX12_call 36 = .ok (.aload_n 0, 1) := by decide +kernel
theorem dX12_call_37 : decode cX12_call 37 = .ok (.getfield 52, 3) := by decide +kernel
theorem dX12_call_40 : decode cX12_call 40 = .ok (.iload 4, 2) := by decide +kernel
theorem dX12_call_42 : decode cX12_call 42 = .ok (.invokevirtual 194, 3) := by decide +kernel
theorem dX12_call_45 : decode cX12_call 45 = .ok (.astore 5, 2) := by decide +kernel
theorem dX12_call_47 : decode cX12_call 47 = .ok (.aload_n 0, 1) := by decide +kernel
theorem dX12_call_48 : decode cX12_call 48 = .ok (.aload 5, 2) := by decide +kernel
theorem dX12_call_50 : decode cX12_call 50 = .ok (.iconst 2, 1) := by decide +kernel
theorem dX12_call_51 : decode cX12_call 51 = .ok (.aload 5, 2) := by decide +kernel
theorem dX12_call_53 : decode cX12_call 53 = .ok (.iconst 0, 1) := by decide +kernel
theorem dX12_call_54 : decode cX12_call 54 = .ok (.invokestatic 181, 3) := by decide +kernel
theorem dX12_call_57 : decode cX12_call 57 = .ok (.invokevirtual 198, 3) := by decide +kernel
theorem dX12_call_60 : decode cX12_call 60 = .ok (.ifCond .ne 5, 3) := by decide +kernel
theorem dX12_call_63 : decode cX12_call 63 = .ok (.iconst 0, 1) := by decide +kernel
theorem dX12_call_64 : decode cX12_call 64 = .ok (.ireturn, 1) := by decide +kernel
theorem dX12_call_65 : decode cX12_call 65 = .ok (.aload_n 0, 1) := by decide +kernel
theorem dX12_call_66 : decode cX12_call 66 = .ok (.getfield 61, 3) := by decide +kernel
theorem dX12_call_69 : decode cX12_call 69 = .ok (.iload 4, 2) := by decide +kernel
theorem dX12_call_71 : decode cX12_call 71 = .ok (.aload_n 0, 1) := by decide +kernel
theorem dX12_call_72 : decode cX12_call 72 = .ok (.getfield 24, 3) := by decide +kernel
theorem dX12_call_75 : decode cX12_call 75 = .ok (.aload_n 0, 1) := by decide +kernel
theorem dX12_call_76 : decode cX12_call 76 = .ok (.getfield 191, 3) := by decide +kernel
theorem dX12_call_79 : decode cX12_call 79 = .ok (.invokevirtual 185, 3) := by decide +kernel
theorem dX12_call_82 : decode cX12_call 82 = .ok (.aload_n 0, 1) := by decide +kernel
theorem dX12_call_83 : decode cX12_call 83 = .ok (.iconst 0, 1) := by decide +kernel
theorem dX12_call_84 : decode cX12_call 84 = .ok (.putfield 191, 3) := by decide +kernel
theorem dX12_call_87 : decode cX12_call 87 = .ok (.iconst 1, 1) := by decide +kernel
theorem dX12_call_88 : decode cX12_call 88 = .ok (.ireturn, 1) := by decide +kernel
noncomputable def fX12_call_b82 (h : pm_H) (x0 : Nat) : Option (Int32 × pm_H) := if pm_kd h x0 = 12 then some ((1, pm_setI h x0 15 0)) else none
noncomputable def fX12_call_b0 (h : pm_H) (x0 : Nat) (x1 : Int32) (x2 : Int32) : Option (Int32 × pm_H) := if pm_kd h x0 = 12 then (pm_R h x0 10).bind fun v2 => if pm_kd h v2 = 10 then (fX10_instanceAt h v2 x1).bind fun v5 => (pm_R h x0 11).bind fun v7 => if pm_kd h v7 = 5 then (fX5_isBusy h v7).bind fun v10 => if v10 = 0 then (if pm_kd h v5 = 4 then (fX4_exportKind h v5 x2).bind fun v14 => if v14 = 0 then ((fX4_exportNumber h v5 x2).bind fun v17 => (fX10_shapeOf h v2 v17).bind fun v19 => (fX12_item h v19 0).bind fun v21 => (fX12_argumentsAre h x0 v19 2 v21).bind fun v23 => if v23 = 0 then (some ((0, h))) else ((pm_R h x0 14).bind fun v26 => (fX5_begin h v7 v17 v26 (pm_I h x0 15)).bind fun v28 => fX12_call_b82 v28 x0)) else (some ((0, h))) else none) else (some ((0, h))) else none else none else none
noncomputable def fX12_call (h : pm_H) (a0 : Nat) (p1 : Int32) (p2 : Int32) : Option (Int32 × pm_H) := fX12_call_b0 h a0 p1 p2
set_option maxHeartbeats 4000000 in
set_option maxRecDepth 100000 in
theorem moX12_call_b82 {h : pm_H} {x0 : Nat} {r : (Int32 × pm_H)} (hf : fX12_call_b82 h x0 = some r) : pm_Le h r.2 := by
  unfold fX12_call_b82 at hf
  have K0 := pm_S3.rf h
  obtain ⟨k30, hf⟩ := pm_if hf
  have hf := Option.some.inj hf
  subst hf
  exact pm_S3.le (pm_S3I K0)
set_option maxHeartbeats 4000000 in
set_option maxRecDepth 100000 in
theorem moX12_call_b0 {h : pm_H} {x0 : Nat} {x1 : Int32} {x2 : Int32} {r : (Int32 × pm_H)} (hf : fX12_call_b0 h x0 x1 x2 = some r) : pm_Le h r.2 := by
  unfold fX12_call_b0 at hf
  have K0 := pm_S3.rf h
  obtain ⟨k1, hf⟩ := pm_if hf
  obtain ⟨v2, e3, hf⟩ := pm_bd hf
  obtain ⟨k4, hf⟩ := pm_if hf
  obtain ⟨v5, e6, hf⟩ := pm_bd hf
  obtain ⟨v7, e8, hf⟩ := pm_bd hf
  obtain ⟨k9, hf⟩ := pm_if hf
  obtain ⟨v10, e11, hf⟩ := pm_bd hf
  by_cases c12 : v10 = 0
  · have hf := pm_it hf c12
    obtain ⟨k13, hf⟩ := pm_if hf
    obtain ⟨v14, e15, hf⟩ := pm_bd hf
    by_cases c16 : v14 = 0
    · have hf := pm_it hf c16
      obtain ⟨v17, e18, hf⟩ := pm_bd hf
      obtain ⟨v19, e20, hf⟩ := pm_bd hf
      obtain ⟨v21, e22, hf⟩ := pm_bd hf
      obtain ⟨v23, e24, hf⟩ := pm_bd hf
      by_cases c25 : v23 = 0
      · have hf := pm_it hf c25
        have hf := Option.some.inj hf
        subst hf
        exact pm_S3.le K0
      · have hf := pm_ie hf c25
        obtain ⟨v26, e27, hf⟩ := pm_bd hf
        obtain ⟨v28, e29, hf⟩ := pm_bd hf
        exact ((pm_S3.le K0).trans (moX5_begin e29)).trans (moX12_call_b82 hf)
    · have hf := pm_ie hf c16
      have hf := Option.some.inj hf
      subst hf
      exact pm_S3.le K0
  · have hf := pm_ie hf c12
    have hf := Option.some.inj hf
    subst hf
    exact pm_S3.le K0
set_option maxHeartbeats 4000000 in
set_option maxRecDepth 100000 in
theorem moX12_call {h : pm_H} {a0 : Nat} {p1 : Int32} {p2 : Int32} {r : (Int32 × pm_H)} (hf : fX12_call h a0 p1 p2 = some r) : pm_Le h r.2 := by
  unfold fX12_call at hf
  have K0 := pm_S3.rf h
  exact (pm_S3.le K0).trans (moX12_call_b0 hf)
set_option maxHeartbeats 4000000 in
set_option maxRecDepth 100000 in
theorem bX12_call_82 {g : pm_Gm} {l : Launch} {G : pm_Gl} {Qr : Option Value → pm_H → Prop} (C : pm_C g cX12_call RX12) {h0 h : pm_H} {x0 : Nat} {r : (Int32 × pm_H)} (X : pm_X g l G mX12_call (pm_sz r.2 - pm_sz h0) (pm_us r.2 - pm_us h0) Qr) (m0 : pm_Le h0 h) (hf : fX12_call_b82 h x0 = some r) (q : Qr (some (.int r.1)) r.2) : pm_G g 82 [(0, .ref x0)] [] h (pm_sz h - pm_sz h0) (pm_us h - pm_us h0) := by
  have le0 := moX12_call_b82 hf
  have kc1 := Nat.sub_le_sub_right le0.1 (pm_sz h0)
  have kc2 := Nat.sub_le_sub_right le0.2 (pm_us h0)
  have K0 := pm_S3.rf h
  unfold fX12_call_b82 at hf
  refine pm_aload_n C dX12_call_82 rfl rfl ?_
  refine pm_iconst (v := 0) C dX12_call_83 (by decide) ?_
  obtain ⟨k30, hf⟩ := pm_if hf
  refine pm_putI C dX12_call_84 flX12_191 rfl rfl k30 rfl rfl ?_
  refine pm_iconst (v := 1) C dX12_call_87 (by decide) ?_
  have hf := Option.some.inj hf
  subst hf
  exact pm_zret C X dX12_call_88 rfl (by decide) kc1 kc2 q
set_option maxHeartbeats 4000000 in
set_option maxRecDepth 100000 in
theorem bX12_call_0 {g : pm_Gm} {l : Launch} {G : pm_Gl} {Qr : Option Value → pm_H → Prop} (C : pm_C g cX12_call RX12) {h0 h : pm_H} {x0 : Nat} {x1 : Int32} {x2 : Int32} {r : (Int32 × pm_H)} (X : pm_X g l G mX12_call (pm_sz r.2 - pm_sz h0) (pm_us r.2 - pm_us h0) Qr) (m0 : pm_Le h0 h) (hf : fX12_call_b0 h x0 x1 x2 = some r) (q : Qr (some (.int r.1)) r.2) : pm_G g 0 [(0, .ref x0), (1, .int x1), (2, .int x2)] [] h (pm_sz h - pm_sz h0) (pm_us h - pm_us h0) := by
  have le0 := moX12_call_b0 hf
  have kc1 := Nat.sub_le_sub_right le0.1 (pm_sz h0)
  have kc2 := Nat.sub_le_sub_right le0.2 (pm_us h0)
  have K0 := pm_S3.rf h
  unfold fX12_call_b0 at hf
  refine pm_aload_n C dX12_call_0 rfl rfl ?_
  obtain ⟨k1, hf⟩ := pm_if hf
  obtain ⟨v2, e3, hf⟩ := pm_bd hf
  refine pm_getR C dX12_call_1 flX12_52 rfl k1 e3 ?_
  refine pm_iload_n C dX12_call_4 rfl rfl ?_
  obtain ⟨k4, hf⟩ := pm_if hf
  obtain ⟨v5, e6, hf⟩ := pm_bd hf
  refine pm_callV (as := [.int x1]) (st := []) C X dX12_call_5 lnX12_139 myX10_instanceAt viX10_instanceAt ⟨by decide, by decide⟩ rfl rfl k4 (Nat.le_of_ble_eq_true rfl) kc1 kc2 (ctX10_instanceAt e6 ?_)
  show pm_G g 8 [(0, .ref x0), (1, .int x1), (2, .int x2)] [.ref v5] h (pm_sz h - pm_sz h0) (pm_us h - pm_us h0)
  refine pm_astore_n (lv' := [(3, .ref v5), (0, .ref x0), (1, .int x1), (2, .int x2)]) C dX12_call_8 rfl (pm_nl X (by decide)) rfl ?_
  refine pm_aload_n C dX12_call_9 rfl rfl ?_
  obtain ⟨v7, e8, hf⟩ := pm_bd hf
  refine pm_getR C dX12_call_10 flX12_61 rfl k1 e8 ?_
  obtain ⟨k9, hf⟩ := pm_if hf
  obtain ⟨v10, e11, hf⟩ := pm_bd hf
  refine pm_callV (as := []) (st := []) C X dX12_call_13 lnX12_156 myX5_isBusy viX5_isBusy ⟨by decide, by decide⟩ rfl rfl k9 (Nat.le_of_ble_eq_true rfl) kc1 kc2 (ctX5_isBusy e11 ?_)
  show pm_G g 16 [(3, .ref v5), (0, .ref x0), (1, .int x1), (2, .int x2)] [.int v10] h (pm_sz h - pm_sz h0) (pm_us h - pm_us h0)
  refine pm_if_ne (tgt := 27) C dX12_call_16 (by decide) (fun c12 => ?_) (fun c12 => ?_)
  · have hf := pm_ie hf c12
    refine pm_iconst (v := 0) C dX12_call_27 (by decide) ?_
    have hf := Option.some.inj hf
    subst hf
    exact pm_zret C X dX12_call_28 rfl (by decide) kc1 kc2 q
  · have hf := pm_it hf c12
    refine pm_aload_n C dX12_call_19 rfl rfl ?_
    refine pm_iload_n C dX12_call_20 rfl rfl ?_
    obtain ⟨k13, hf⟩ := pm_if hf
    obtain ⟨v14, e15, hf⟩ := pm_bd hf
    refine pm_callV (as := [.int x2]) (st := []) C X dX12_call_21 lnX12_143 myX4_exportKind viX4_exportKind ⟨by decide, by decide⟩ rfl rfl k13 (Nat.le_of_ble_eq_true rfl) kc1 kc2 (ctX4_exportKind e15 ?_)
    show pm_G g 24 [(3, .ref v5), (0, .ref x0), (1, .int x1), (2, .int x2)] [.int v14] h (pm_sz h - pm_sz h0) (pm_us h - pm_us h0)
    refine pm_if_eq (tgt := 29) C dX12_call_24 (by decide) (fun c16 => ?_) (fun c16 => ?_)
    · have hf := pm_it hf c16
      refine pm_aload_n C dX12_call_29 rfl rfl ?_
      refine pm_iload_n C dX12_call_30 rfl rfl ?_
      obtain ⟨v17, e18, hf⟩ := pm_bd hf
      refine pm_callV (as := [.int x2]) (st := []) C X dX12_call_31 lnX12_149 myX4_exportNumber viX4_exportNumber ⟨by decide, by decide⟩ rfl rfl k13 (Nat.le_of_ble_eq_true rfl) kc1 kc2 (ctX4_exportNumber e18 ?_)
      show pm_G g 34 [(3, .ref v5), (0, .ref x0), (1, .int x1), (2, .int x2)] [.int v17] h (pm_sz h - pm_sz h0) (pm_us h - pm_us h0)
      refine pm_istore (lv' := [(4, .int v17), (3, .ref v5), (0, .ref x0), (1, .int x1), (2, .int x2)]) C dX12_call_34 (pm_nl X (by decide)) rfl ?_
      refine pm_aload_n C dX12_call_36 rfl rfl ?_
      refine pm_getR C dX12_call_37 flX12_52 rfl k1 e3 ?_
      refine pm_iload C dX12_call_40 rfl ?_
      obtain ⟨v19, e20, hf⟩ := pm_bd hf
      refine pm_callV (as := [.int v17]) (st := []) C X dX12_call_42 lnX12_194 myX10_shapeOf viX10_shapeOf ⟨by decide, by decide⟩ rfl rfl k4 (Nat.le_of_ble_eq_true rfl) kc1 kc2 (ctX10_shapeOf e20 ?_)
      show pm_G g 45 [(4, .int v17), (3, .ref v5), (0, .ref x0), (1, .int x1), (2, .int x2)] [.ref v19] h (pm_sz h - pm_sz h0) (pm_us h - pm_us h0)
      refine pm_astore (lv' := [(5, .ref v19), (4, .int v17), (3, .ref v5), (0, .ref x0), (1, .int x1), (2, .int x2)]) C dX12_call_45 (pm_nl X (by decide)) rfl ?_
      refine pm_aload_n C dX12_call_47 rfl rfl ?_
      refine pm_aload C dX12_call_48 rfl ?_
      refine pm_iconst (v := 2) C dX12_call_50 (by decide) ?_
      refine pm_aload C dX12_call_51 rfl ?_
      refine pm_iconst (v := 0) C dX12_call_53 (by decide) ?_
      obtain ⟨v21, e22, hf⟩ := pm_bd hf
      refine pm_callS (as := [.ref v19, .int 0]) (st := [.int 2, .ref v19, .ref x0]) C X dX12_call_54 lnX12_181 myX12_item stX12_item ⟨by decide, by decide⟩ rfl rfl (Nat.le_of_ble_eq_true rfl) kc1 kc2 (ctX12_item e22 ?_)
      show pm_G g 57 [(5, .ref v19), (4, .int v17), (3, .ref v5), (0, .ref x0), (1, .int x1), (2, .int x2)] [.int v21, .int 2, .ref v19, .ref x0] h (pm_sz h - pm_sz h0) (pm_us h - pm_us h0)
      obtain ⟨v23, e24, hf⟩ := pm_bd hf
      refine pm_callV (as := [.ref v19, .int 2, .int v21]) (st := []) C X dX12_call_57 lnX12_198 myX12_argumentsAre viX12_argumentsAre ⟨by decide, by decide⟩ rfl rfl k1 (Nat.le_of_ble_eq_true rfl) kc1 kc2 (ctX12_argumentsAre e24 ?_)
      show pm_G g 60 [(5, .ref v19), (4, .int v17), (3, .ref v5), (0, .ref x0), (1, .int x1), (2, .int x2)] [.int v23] h (pm_sz h - pm_sz h0) (pm_us h - pm_us h0)
      refine pm_if_ne (tgt := 65) C dX12_call_60 (by decide) (fun c25 => ?_) (fun c25 => ?_)
      · have hf := pm_ie hf c25
        refine pm_aload_n C dX12_call_65 rfl rfl ?_
        refine pm_getR C dX12_call_66 flX12_61 rfl k1 e8 ?_
        refine pm_iload C dX12_call_69 rfl ?_
        refine pm_aload_n C dX12_call_71 rfl rfl ?_
        obtain ⟨v26, e27, hf⟩ := pm_bd hf
        refine pm_getR C dX12_call_72 flX12_24 rfl k1 e27 ?_
        refine pm_aload_n C dX12_call_75 rfl rfl ?_
        refine pm_getI C dX12_call_76 flX12_191 rfl k1 rfl ?_
        obtain ⟨v28, e29, hf⟩ := pm_bd hf
        refine pm_callV (as := [.int v17, .ref v26, .int (pm_I h x0 15)]) (st := []) C X dX12_call_79 lnX12_185 myX5_begin viX5_begin ⟨by decide, by decide⟩ rfl rfl k9 (Nat.le_of_ble_eq_true rfl) (pa_le1 K0 m0 (moX5_begin e29) (moX12_call_b82 hf)) (pa_le2 K0 m0 (moX5_begin e29) (moX12_call_b82 hf)) (ctX5_begin e29 ?_)
        show pm_G g 82 [(5, .ref v19), (4, .int v17), (3, .ref v5), (0, .ref x0), (1, .int x1), (2, .int x2)] [] v28 (pm_sz h - pm_sz h0 + (pm_sz v28 - pm_sz h)) (pm_us h - pm_us h0 + (pm_us v28 - pm_us h))
        refine pa_fin K0 m0 (moX5_begin e29) ?_
        exact pm_sub [3] rfl (bX12_call_82 C X ((m0.trans (pm_S3.le K0)).trans (moX5_begin e29)) hf q)
      · have hf := pm_it hf c25
        refine pm_iconst (v := 0) C dX12_call_63 (by decide) ?_
        have hf := Option.some.inj hf
        subst hf
        exact pm_zret C X dX12_call_64 rfl (by decide) kc1 kc2 q
    · have hf := pm_ie hf c16
      refine pm_iconst (v := 0) C dX12_call_27 (by decide) ?_
      have hf := Option.some.inj hf
      subst hf
      exact pm_zret C X dX12_call_28 rfl (by decide) kc1 kc2 q
set_option maxHeartbeats 4000000 in
set_option maxRecDepth 100000 in
theorem ctX12_call {l : Launch} {G : pm_Gl} {h : pm_H} {a0 : Nat} {p1 : Int32} {p2 : Int32} {r : (Int32 × pm_H)} {Qr : Option Value → pm_H → Prop} (hf : fX12_call h a0 p1 p2 = some r) (q : Qr (some (.int r.1)) r.2) : pm_Ct l G mX12_call [.ref a0, .int p1, .int p2] h (pm_sz r.2 - pm_sz h) (pm_us r.2 - pm_us h) Qr := by
  refine pm_body pnX12 (Nat.le_of_ble_eq_true rfl) (fun g C X => ?_)
  have C : pm_C g cX12_call RX12 := C
  show pm_G g 0 [(0, .ref a0), (1, .int p1), (2, .int p2)] [] h 0 0
  unfold fX12_call at hf
  exact pa_start (pm_sub [0, 1, 2] rfl (bX12_call_0 C X (pm_Le.rf h) hf q))
