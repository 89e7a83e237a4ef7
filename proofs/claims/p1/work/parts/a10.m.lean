theorem dX1_branch_0 : decode cX1_branch 0 = .ok (.lload_n 1, 1) := by decide +kernel
theorem dX1_branch_1 : decode cX1_branch 1 = .ok (.aload_n 0, 1) := by decide +kernel
theorem dX1_branch_2 : decode cX1_branch 2 = .ok (.getfield 220, 3) := by decide +kernel
theorem dX1_branch_5 : decode cX1_branch 5 = .ok (.i2l, 1) := by decide +kernel
theorem dX1_branch_6 : decode cX1_branch 6 = .ok (.lcmp, 1) := by decide +kernel
theorem dX1_branch_7 : decode cX1_branch 7 = .ok (.ifCond .lt 10, 3) := by decide +kernel
theorem dX1_branch_10 : decode cX1_branch 10 = .ok (.aload_n 0, 1) := by decide +kernel
theorem dX1_branch_11 : decode cX1_branch 11 = .ok (.bipush 30, 2) := by decide +kernel
theorem dX1_branch_13 : decode cX1_branch 13 = .ok (.invokevirtual 198, 3) := by decide +kernel
theorem dX1_branch_16 : decode cX1_branch 16 = .ok (.return_, 1) := by decide +kernel
theorem dX1_branch_17 : decode cX1_branch 17 = .ok (.aload_n 0, 1) := by decide +kernel
theorem dX1_branch_18 : decode cX1_branch 18 = .ok (.getfield 220, 3) := by decide +kernel
theorem dX1_branch_21 : decode cX1_branch 21 = .ok (.iconst 1, 1) := by decide +kernel
theorem dX1_branch_22 : decode cX1_branch 22 = .ok (.isub, 1) := by decide +kernel
theorem dX1_branch_23 : decode cX1_branch 23 = .ok (.lload_n 1, 1) := by decide +kernel
theorem dX1_branch_24 : decode cX1_branch 24 = .ok (.l2i, 1) := by decide +kernel
theorem dX1_branch_25 : decode cX1_branch 25 = .ok (.isub, 1) := by decide +kernel
theorem dX1_branch_26 : decode cX1_branch 26 = .ok (.istore_n 3, 1) := by decide +kernel
theorem dX1_branch_27 : decode cX1_branch 27 = .ok (.aload_n 0, 1) := by decide +kernel
theorem dX1_branch_28 : decode cX1_branch 28 = .ok (.getfield 36, 3) := by decide +kernel
theorem dX1_branch_31 : decode cX1_branch 31 = .ok (.getfield 191, 3) := by decide +kernel
theorem dX1_branch_34 : decode cX1_branch 34 = .ok (.bipush 13, 2) := by decide +kernel
theorem dX1_branch_36 : decode cX1_branch 36 = .ok (.if_icmp .ne 10, 3) := by decide +kernel
theorem dX1_branch_39 : decode cX1_branch 39 = .ok (.aload_n 0, 1) := by decide +kernel
theorem dX1_branch_40 : decode cX1_branch 40 = .ok (.bipush 127, 2) := by decide +kernel
theorem dX1_branch_42 : decode cX1_branch 42 = .ok (.invokevirtual 289, 3) := by decide +kernel
theorem dX1_branch_45 : decode cX1_branch 45 = .ok (.pop, 1) := by decide +kernel
theorem dX1_branch_46 : decode cX1_branch 46 = .ok (.aload_n 0, 1) := by decide +kernel
theorem dX1_branch_47 : decode cX1_branch 47 = .ok (.iload_n 3, 1) := by decide +kernel
theorem dX1_branch_48 : decode cX1_branch 48 = .ok (.invokevirtual 375, 3) := by decide +kernel
theorem dX1_branch_51 : decode cX1_branch 51 = .ok (.aload_n 0, 1) := by decide +kernel
theorem dX1_branch_52 : decode cX1_branch 52 = .ok (.getfield 36, 3) := by decide +kernel
theorem dX1_branch_55 : decode cX1_branch 55 = .ok (.getfield 191, 3) := by decide +kernel
theorem dX1_branch_58 : decode cX1_branch 58 = .ok (.bipush 13, 2) := by decide +kernel
theorem dX1_branch_60 : decode cX1_branch 60 = .ok (.if_icmp .ne 22, 3) := by decide +kernel
theorem dX1_branch_63 : decode cX1_branch 63 = .ok (.aload_n 0, 1) := by decide +kernel
theorem dX1_branch_64 : decode cX1_branch 64 = .ok (.aload_n 0, 1) := by decide +kernel
theorem dX1_branch_65 : decode cX1_branch 65 = .ok (.iload_n 3, 1) := by decide +kernel
theorem dX1_branch_66 : decode cX1_branch 66 = .ok (.invokevirtual 301, 3) := by decide +kernel
theorem dX1_branch_69 : decode cX1_branch 69 = .ok (.aload_n 0, 1) := by decide +kernel
theorem dX1_branch_70 : decode cX1_branch 70 = .ok (.iload_n 3, 1) := by decide +kernel
theorem dX1_branch_71 : decode cX1_branch 71 = .ok (.invokevirtual 308, 3) := by decide +kernel
theorem dX1_branch_74 : decode cX1_branch 74 = .ok (.aload_n 0, 1) := by decide +kernel
theorem dX1_branch_75 : decode cX1_branch 75 = .ok (.iload_n 3, 1) := by decide +kernel
theorem dX1_branch_76 : decode cX1_branch 76 = .ok (.invokevirtual 311, 3) := by decide +kernel
theorem dX1_branch_79 : decode cX1_branch 79 = .ok (.invokevirtual 298, 3) := by decide +kernel
theorem dX1_branch_82 : decode cX1_branch 82 = .ok (.aload_n 0, 1) := by decide +kernel
theorem dX1_branch_83 : decode cX1_branch 83 = .ok (.aload_n 0, 1) := by decide +kernel
theorem dX1_branch_84 : decode cX1_branch 84 = .ok (.getfield 36, 3) := by decide +kernel
theorem dX1_branch_87 : decode cX1_branch 87 = .ok (.getfield 191, 3) := by decide +kernel
theorem dX1_branch_90 : decode cX1_branch 90 = .ok (.iload_n 3, 1) := by decide +kernel
theorem dX1_branch_91 : decode cX1_branch 91 = .ok (.invokevirtual 378, 3) := by decide +kernel
theorem dX1_branch_94 : decode cX1_branch 94 = .ok (.aload_n 0, 1) := by decide +kernel
theorem dX1_branch_95 : decode cX1_branch 95 = .ok (.getfield 36, 3) := by decide +kernel
theorem dX1_branch_98 : decode cX1_branch 98 = .ok (.getfield 191, 3) := by decide +kernel
theorem dX1_branch_101 : decode cX1_branch 101 = .ok (.bipush 12, 2) := by decide +kernel
theorem dX1_branch_103 : decode cX1_branch 103 = .ok (.if_icmp .ne 7, 3) := by decide +kernel
theorem dX1_branch_106 : decode cX1_branch 106 = .ok (.aload_n 0, 1) := by decide +kernel
theorem dX1_branch_107 : decode cX1_branch 107 = .ok (.invokevirtual 357, 3) := by decide +kernel
theorem dX1_branch_110 : decode cX1_branch 110 = .ok (.return_, 1) := by decide +kernel
noncomputable def fX1_branch_b94 (h : pm_H) (x0 : Nat) : Option pm_H := if pm_kd h x0 = 1 then (pm_R h x0 3).bind fun v37 => if pm_kd h v37 = 9 then if (pm_I h v37 6) = 12 then ((fX1_die h x0).bind fun v41 => some v41) else (some h) else none else none
noncomputable def fX1_branch_b82 (h : pm_H) (x0 : Nat) (x3 : Int32) : Option pm_H := if pm_kd h x0 = 1 then (pm_R h x0 3).bind fun v28 => if pm_kd h v28 = 9 then (fX1_emitBranch h x0 (pm_I h v28 6) x3).bind fun v31 => fX1_branch_b94 v31 x0 else none else none
noncomputable def fX1_branch_b79 (h : pm_H) (x0 : Nat) (x3 : Int32) (s0 : Int32) (s1 : Int32) (s2 : Nat) (s3 : Nat) : Option pm_H := if pm_kd h s3 = 1 then (fX1_putTypes h s3 s2 s1 s0).bind fun v48 => fX1_branch_b82 v48 x0 x3 else none
noncomputable def fX1_branch_b74 (h : pm_H) (x0 : Nat) (x3 : Int32) (s0 : Int32) (s1 : Nat) (s2 : Nat) : Option pm_H := if pm_kd h x0 = 1 then (fX1_wantedCount h x0 x3).bind fun v45 => fX1_branch_b79 v45.2 x0 x3 v45.1 s0 s1 s2 else none
noncomputable def fX1_branch_b69 (h : pm_H) (x0 : Nat) (x3 : Int32) (s0 : Nat) (s1 : Nat) : Option pm_H := if pm_kd h x0 = 1 then (fX1_wantedFrom h x0 x3).bind fun v34 => fX1_branch_b74 v34.2 x0 x3 v34.1 s0 s1 else none
noncomputable def fX1_branch_b51 (h : pm_H) (x0 : Nat) (x3 : Int32) : Option pm_H := if pm_kd h x0 = 1 then (pm_R h x0 3).bind fun v21 => if pm_kd h v21 = 9 then if (pm_I h v21 6) = 13 then ((fX1_shapeOfLabel h x0 x3).bind fun v25 => fX1_branch_b69 v25.2 x0 x3 v25.1 x0) else (fX1_branch_b82 h x0 x3) else none else none
noncomputable def fX1_branch_b0 (h : pm_H) (x0 : Nat) (x1 : Int64) : Option pm_H := if pm_kd h x0 = 1 then if x1 < ((pm_I h x0 10).toInt64) then (pm_let (((pm_I h x0 10) - 1) - x1.toInt32) fun y3 => (pm_R h x0 3).bind fun v5 => if pm_kd h v5 = 9 then if (pm_I h v5 6) = 13 then ((fX1_take h x0 127).bind fun v11 => if pm_kd v11.2 x0 = 1 then (fX1_takeWanted v11.2 x0 y3).bind fun v15 => fX1_branch_b51 v15 x0 y3 else none) else ((fX1_takeWanted h x0 y3).bind fun v9 => fX1_branch_b51 v9 x0 y3) else none) else ((fX1_fail h x0 30).bind fun v17 => some v17) else none
noncomputable def fX1_branch (h : pm_H) (a0 : Nat) (p1 : Int64) : Option pm_H := fX1_branch_b0 h a0 p1
set_option maxHeartbeats 4000000 in
set_option maxRecDepth 100000 in
theorem moX1_branch_b94 {h : pm_H} {x0 : Nat} {r : pm_H} (hf : fX1_branch_b94 h x0 = some r) : pm_Le h r := by
  unfold fX1_branch_b94 at hf
  have K0 := pm_S3.rf h
  obtain ⟨k39, hf⟩ := pm_if hf
  obtain ⟨v40, e41, hf⟩ := pm_bd hf
  obtain ⟨k42, hf⟩ := pm_if hf
  by_cases c43 : (pm_I h v40 6) = 12
  · have hf := pm_it hf c43
    obtain ⟨v44, e45, hf⟩ := pm_bd hf
    have K46 := pm_S3.trans (kpX1_die e45) K0
    have hf := Option.some.inj hf
    subst hf
    exact pm_S3.le K46
  · have hf := pm_ie hf c43
    have hf := Option.some.inj hf
    subst hf
    exact pm_S3.le K0
set_option maxHeartbeats 4000000 in
set_option maxRecDepth 100000 in
theorem moX1_branch_b82 {h : pm_H} {x0 : Nat} {x3 : Int32} {r : pm_H} (hf : fX1_branch_b82 h x0 x3 = some r) : pm_Le h r := by
  unfold fX1_branch_b82 at hf
  have K0 := pm_S3.rf h
  obtain ⟨k30, hf⟩ := pm_if hf
  obtain ⟨v31, e32, hf⟩ := pm_bd hf
  obtain ⟨k33, hf⟩ := pm_if hf
  obtain ⟨v34, e35, hf⟩ := pm_bd hf
  exact ((pm_S3.le K0).trans (moX1_emitBranch e35)).trans (moX1_branch_b94 hf)
set_option maxHeartbeats 4000000 in
set_option maxRecDepth 100000 in
theorem moX1_branch_b79 {h : pm_H} {x0 : Nat} {x3 : Int32} {s0 : Int32} {s1 : Int32} {s2 : Nat} {s3 : Nat} {r : pm_H} (hf : fX1_branch_b79 h x0 x3 s0 s1 s2 s3 = some r) : pm_Le h r := by
  unfold fX1_branch_b79 at hf
  have K0 := pm_S3.rf h
  obtain ⟨k47, hf⟩ := pm_if hf
  obtain ⟨v48, e49, hf⟩ := pm_bd hf
  have K50 := pm_S3.trans (kpX1_putTypes e49) K0
  exact (pm_S3.le K50).trans (moX1_branch_b82 hf)
set_option maxHeartbeats 4000000 in
set_option maxRecDepth 100000 in
theorem moX1_branch_b74 {h : pm_H} {x0 : Nat} {x3 : Int32} {s0 : Int32} {s1 : Nat} {s2 : Nat} {r : pm_H} (hf : fX1_branch_b74 h x0 x3 s0 s1 s2 = some r) : pm_Le h r := by
  unfold fX1_branch_b74 at hf
  have K0 := pm_S3.rf h
  obtain ⟨k36, hf⟩ := pm_if hf
  obtain ⟨v37, e38, hf⟩ := pm_bd hf
  exact ((pm_S3.le K0).trans (moX1_wantedCount e38)).trans (moX1_branch_b79 hf)
set_option maxHeartbeats 4000000 in
set_option maxRecDepth 100000 in
theorem moX1_branch_b69 {h : pm_H} {x0 : Nat} {x3 : Int32} {s0 : Nat} {s1 : Nat} {r : pm_H} (hf : fX1_branch_b69 h x0 x3 s0 s1 = some r) : pm_Le h r := by
  unfold fX1_branch_b69 at hf
  have K0 := pm_S3.rf h
  obtain ⟨k27, hf⟩ := pm_if hf
  obtain ⟨v28, e29, hf⟩ := pm_bd hf
  exact ((pm_S3.le K0).trans (moX1_wantedFrom e29)).trans (moX1_branch_b74 hf)
set_option maxHeartbeats 4000000 in
set_option maxRecDepth 100000 in
theorem moX1_branch_b51 {h : pm_H} {x0 : Nat} {x3 : Int32} {r : pm_H} (hf : fX1_branch_b51 h x0 x3 = some r) : pm_Le h r := by
  unfold fX1_branch_b51 at hf
  have K0 := pm_S3.rf h
  obtain ⟨k20, hf⟩ := pm_if hf
  obtain ⟨v21, e22, hf⟩ := pm_bd hf
  obtain ⟨k23, hf⟩ := pm_if hf
  by_cases c24 : (pm_I h v21 6) = 13
  · have hf := pm_it hf c24
    obtain ⟨v25, e26, hf⟩ := pm_bd hf
    exact ((pm_S3.le K0).trans (moX1_shapeOfLabel e26)).trans (moX1_branch_b69 hf)
  · have hf := pm_ie hf c24
    exact (pm_S3.le K0).trans (moX1_branch_b82 hf)
set_option maxHeartbeats 4000000 in
set_option maxRecDepth 100000 in
theorem moX1_branch_b0 {h : pm_H} {x0 : Nat} {x1 : Int64} {r : pm_H} (hf : fX1_branch_b0 h x0 x1 = some r) : pm_Le h r := by
  unfold fX1_branch_b0 at hf
  have K0 := pm_S3.rf h
  obtain ⟨k1, hf⟩ := pm_if hf
  by_cases c2 : x1 < ((pm_I h x0 10).toInt64)
  · have hf := pm_it hf c2
    obtain ⟨y3, e4, hf⟩ := pm_lt hf
    obtain ⟨v5, e6, hf⟩ := pm_bd hf
    obtain ⟨k7, hf⟩ := pm_if hf
    by_cases c8 : (pm_I h v5 6) = 13
    · have hf := pm_it hf c8
      obtain ⟨v9, e10, hf⟩ := pm_bd hf
      have K11 := pm_S3.trans (kpX1_take e10) K0
      obtain ⟨k12, hf⟩ := pm_if hf
      obtain ⟨v13, e14, hf⟩ := pm_bd hf
      exact ((pm_S3.le K11).trans (moX1_takeWanted e14)).trans (moX1_branch_b51 hf)
    · have hf := pm_ie hf c8
      obtain ⟨v15, e16, hf⟩ := pm_bd hf
      exact ((pm_S3.le K0).trans (moX1_takeWanted e16)).trans (moX1_branch_b51 hf)
  · have hf := pm_ie hf c2
    obtain ⟨v17, e18, hf⟩ := pm_bd hf
    have K19 := pm_S3.trans (kpX1_fail e18) K0
    have hf := Option.some.inj hf
    subst hf
    exact pm_S3.le K19
set_option maxHeartbeats 4000000 in
set_option maxRecDepth 100000 in
theorem moX1_branch {h : pm_H} {a0 : Nat} {p1 : Int64} {r : pm_H} (hf : fX1_branch h a0 p1 = some r) : pm_Le h r := by
  unfold fX1_branch at hf
  have K0 := pm_S3.rf h
  exact (pm_S3.le K0).trans (moX1_branch_b0 hf)
set_option maxHeartbeats 4000000 in
set_option maxRecDepth 100000 in
theorem bX1_branch_94 {g : pm_Gm} {l : Launch} {G : pm_Gl} {Qr : Option Value → pm_H → Prop} (C : pm_C g cX1_branch RX1) {h0 h : pm_H} {x0 : Nat} {r : pm_H} (X : pm_X g l G mX1_branch (pm_sz r - pm_sz h0) (pm_us r - pm_us h0) Qr) (m0 : pm_Le h0 h) (hf : fX1_branch_b94 h x0 = some r) (q : Qr none r) : pm_G g 94 [(0, .ref x0)] [] h (pm_sz h - pm_sz h0) (pm_us h - pm_us h0) := by
  have le0 := moX1_branch_b94 hf
  have kc1 := Nat.sub_le_sub_right le0.1 (pm_sz h0)
  have kc2 := Nat.sub_le_sub_right le0.2 (pm_us h0)
  have K0 := pm_S3.rf h
  unfold fX1_branch_b94 at hf
  refine pm_aload_n C dX1_branch_94 rfl rfl ?_
  obtain ⟨k36, hf⟩ := pm_if hf
  obtain ⟨v37, e38, hf⟩ := pm_bd hf
  refine pm_getR C dX1_branch_95 flX1_36 rfl k36 e38 ?_
  obtain ⟨k39, hf⟩ := pm_if hf
  refine pm_getI C dX1_branch_98 flX1_191 rfl k39 rfl ?_
  refine pm_bipush (v := 12) C dX1_branch_101 (by decide) ?_
  refine pm_icmp_ne (tgt := 110) C dX1_branch_103 (by decide) (fun c40 => ?_) (fun c40 => ?_)
  · have hf := pm_ie hf c40
    have hf := Option.some.inj hf
    subst hf
    exact pm_vret C X dX1_branch_110 rfl kc1 kc2 q
  · have hf := pm_it hf c40
    refine pm_aload_n C dX1_branch_106 rfl rfl ?_
    obtain ⟨v41, e42, hf⟩ := pm_bd hf
    refine pm_callV (as := []) (st := []) C X dX1_branch_107 lnX1_357 myX1_die viX1_die ⟨by decide, by decide⟩ rfl rfl k36 (Nat.le_of_ble_eq_true rfl) kc1 kc2 (ctX1_die e42 ?_)
    have K43 := pm_S3.trans (kpX1_die e42) K0
    show pm_G g 110 [(0, .ref x0)] [] v41 (pm_sz h - pm_sz h0) (pm_us h - pm_us h0)
    have hf := Option.some.inj hf
    subst hf
    exact pm_vret C X dX1_branch_110 rfl kc1 kc2 q
set_option maxHeartbeats 4000000 in
set_option maxRecDepth 100000 in
theorem bX1_branch_82 {g : pm_Gm} {l : Launch} {G : pm_Gl} {Qr : Option Value → pm_H → Prop} (C : pm_C g cX1_branch RX1) {h0 h : pm_H} {x0 : Nat} {x3 : Int32} {r : pm_H} (X : pm_X g l G mX1_branch (pm_sz r - pm_sz h0) (pm_us r - pm_us h0) Qr) (m0 : pm_Le h0 h) (hf : fX1_branch_b82 h x0 x3 = some r) (q : Qr none r) : pm_G g 82 [(0, .ref x0), (3, .int x3)] [] h (pm_sz h - pm_sz h0) (pm_us h - pm_us h0) := by
  have le0 := moX1_branch_b82 hf
  have kc1 := Nat.sub_le_sub_right le0.1 (pm_sz h0)
  have kc2 := Nat.sub_le_sub_right le0.2 (pm_us h0)
  have K0 := pm_S3.rf h
  unfold fX1_branch_b82 at hf
  refine pm_aload_n C dX1_branch_82 rfl rfl ?_
  refine pm_aload_n C dX1_branch_83 rfl rfl ?_
  obtain ⟨k27, hf⟩ := pm_if hf
  obtain ⟨v28, e29, hf⟩ := pm_bd hf
  refine pm_getR C dX1_branch_84 flX1_36 rfl k27 e29 ?_
  obtain ⟨k30, hf⟩ := pm_if hf
  refine pm_getI C dX1_branch_87 flX1_191 rfl k30 rfl ?_
  refine pm_iload_n C dX1_branch_90 rfl rfl ?_
  obtain ⟨v31, e32, hf⟩ := pm_bd hf
  refine pm_callV (as := [.int (pm_I h v28 6), .int x3]) (st := []) C X dX1_branch_91 lnX1_378 myX1_emitBranch viX1_emitBranch ⟨by decide, by decide⟩ rfl rfl k27 (Nat.le_of_ble_eq_true rfl) (pa_le1 K0 m0 (moX1_emitBranch e32) (moX1_branch_b94 hf)) (pa_le2 K0 m0 (moX1_emitBranch e32) (moX1_branch_b94 hf)) (ctX1_emitBranch e32 ?_)
  show pm_G g 94 [(0, .ref x0), (3, .int x3)] [] v31 (pm_sz h - pm_sz h0 + (pm_sz v31 - pm_sz h)) (pm_us h - pm_us h0 + (pm_us v31 - pm_us h))
  refine pa_fin K0 m0 (moX1_emitBranch e32) ?_
  exact pm_sub [0] rfl (bX1_branch_94 C X ((m0.trans (pm_S3.le K0)).trans (moX1_emitBranch e32)) hf q)
set_option maxHeartbeats 4000000 in
set_option maxRecDepth 100000 in
theorem bX1_branch_79 {g : pm_Gm} {l : Launch} {G : pm_Gl} {Qr : Option Value → pm_H → Prop} (C : pm_C g cX1_branch RX1) {h0 h : pm_H} {x0 : Nat} {x3 : Int32} {s0 : Int32} {s1 : Int32} {s2 : Nat} {s3 : Nat} {r : pm_H} (X : pm_X g l G mX1_branch (pm_sz r - pm_sz h0) (pm_us r - pm_us h0) Qr) (m0 : pm_Le h0 h) (hf : fX1_branch_b79 h x0 x3 s0 s1 s2 s3 = some r) (q : Qr none r) : pm_G g 79 [(0, .ref x0), (3, .int x3)] [.int s0, .int s1, .ref s2, .ref s3] h (pm_sz h - pm_sz h0) (pm_us h - pm_us h0) := by
  have le0 := moX1_branch_b79 hf
  have kc1 := Nat.sub_le_sub_right le0.1 (pm_sz h0)
  have kc2 := Nat.sub_le_sub_right le0.2 (pm_us h0)
  have K0 := pm_S3.rf h
  unfold fX1_branch_b79 at hf
  obtain ⟨k47, hf⟩ := pm_if hf
  obtain ⟨v48, e49, hf⟩ := pm_bd hf
  refine pm_callV (as := [.ref s2, .int s1, .int s0]) (st := []) C X dX1_branch_79 lnX1_298 myX1_putTypes viX1_putTypes ⟨by decide, by decide⟩ rfl rfl k47 (Nat.le_of_ble_eq_true rfl) kc1 kc2 (ctX1_putTypes e49 ?_)
  have K50 := pm_S3.trans (kpX1_putTypes e49) K0
  show pm_G g 82 [(0, .ref x0), (3, .int x3)] [] v48 (pm_sz h - pm_sz h0) (pm_us h - pm_us h0)
  exact pa_join K50 (pm_sub [0, 1] rfl (bX1_branch_82 C X (m0.trans (pm_S3.le K50)) hf q))
set_option maxHeartbeats 4000000 in
set_option maxRecDepth 100000 in
theorem bX1_branch_74 {g : pm_Gm} {l : Launch} {G : pm_Gl} {Qr : Option Value → pm_H → Prop} (C : pm_C g cX1_branch RX1) {h0 h : pm_H} {x0 : Nat} {x3 : Int32} {s0 : Int32} {s1 : Nat} {s2 : Nat} {r : pm_H} (X : pm_X g l G mX1_branch (pm_sz r - pm_sz h0) (pm_us r - pm_us h0) Qr) (m0 : pm_Le h0 h) (hf : fX1_branch_b74 h x0 x3 s0 s1 s2 = some r) (q : Qr none r) : pm_G g 74 [(0, .ref x0), (3, .int x3)] [.int s0, .ref s1, .ref s2] h (pm_sz h - pm_sz h0) (pm_us h - pm_us h0) := by
  have le0 := moX1_branch_b74 hf
  have kc1 := Nat.sub_le_sub_right le0.1 (pm_sz h0)
  have kc2 := Nat.sub_le_sub_right le0.2 (pm_us h0)
  have K0 := pm_S3.rf h
  unfold fX1_branch_b74 at hf
  refine pm_aload_n C dX1_branch_74 rfl rfl ?_
  refine pm_iload_n C dX1_branch_75 rfl rfl ?_
  obtain ⟨k44, hf⟩ := pm_if hf
  obtain ⟨v45, e46, hf⟩ := pm_bd hf
  refine pm_callV (as := [.int x3]) (st := [.int s0, .ref s1, .ref s2]) C X dX1_branch_76 lnX1_311 myX1_wantedCount viX1_wantedCount ⟨by decide, by decide⟩ rfl rfl k44 (Nat.le_of_ble_eq_true rfl) (pa_le1 K0 m0 (moX1_wantedCount e46) (moX1_branch_b79 hf)) (pa_le2 K0 m0 (moX1_wantedCount e46) (moX1_branch_b79 hf)) (ctX1_wantedCount e46 ?_)
  show pm_G g 79 [(0, .ref x0), (3, .int x3)] [.int v45.1, .int s0, .ref s1, .ref s2] v45.2 (pm_sz h - pm_sz h0 + (pm_sz v45.2 - pm_sz h)) (pm_us h - pm_us h0 + (pm_us v45.2 - pm_us h))
  refine pa_fin K0 m0 (moX1_wantedCount e46) ?_
  exact pm_sub [0, 1] rfl (bX1_branch_79 C X ((m0.trans (pm_S3.le K0)).trans (moX1_wantedCount e46)) hf q)
set_option maxHeartbeats 4000000 in
set_option maxRecDepth 100000 in
theorem bX1_branch_69 {g : pm_Gm} {l : Launch} {G : pm_Gl} {Qr : Option Value → pm_H → Prop} (C : pm_C g cX1_branch RX1) {h0 h : pm_H} {x0 : Nat} {x3 : Int32} {s0 : Nat} {s1 : Nat} {r : pm_H} (X : pm_X g l G mX1_branch (pm_sz r - pm_sz h0) (pm_us r - pm_us h0) Qr) (m0 : pm_Le h0 h) (hf : fX1_branch_b69 h x0 x3 s0 s1 = some r) (q : Qr none r) : pm_G g 69 [(0, .ref x0), (3, .int x3)] [.ref s0, .ref s1] h (pm_sz h - pm_sz h0) (pm_us h - pm_us h0) := by
  have le0 := moX1_branch_b69 hf
  have kc1 := Nat.sub_le_sub_right le0.1 (pm_sz h0)
  have kc2 := Nat.sub_le_sub_right le0.2 (pm_us h0)
  have K0 := pm_S3.rf h
  unfold fX1_branch_b69 at hf
  refine pm_aload_n C dX1_branch_69 rfl rfl ?_
  refine pm_iload_n C dX1_branch_70 rfl rfl ?_
  obtain ⟨k33, hf⟩ := pm_if hf
  obtain ⟨v34, e35, hf⟩ := pm_bd hf
  refine pm_callV (as := [.int x3]) (st := [.ref s0, .ref s1]) C X dX1_branch_71 lnX1_308 myX1_wantedFrom viX1_wantedFrom ⟨by decide, by decide⟩ rfl rfl k33 (Nat.le_of_ble_eq_true rfl) (pa_le1 K0 m0 (moX1_wantedFrom e35) (moX1_branch_b74 hf)) (pa_le2 K0 m0 (moX1_wantedFrom e35) (moX1_branch_b74 hf)) (ctX1_wantedFrom e35 ?_)
  show pm_G g 74 [(0, .ref x0), (3, .int x3)] [.int v34.1, .ref s0, .ref s1] v34.2 (pm_sz h - pm_sz h0 + (pm_sz v34.2 - pm_sz h)) (pm_us h - pm_us h0 + (pm_us v34.2 - pm_us h))
  refine pa_fin K0 m0 (moX1_wantedFrom e35) ?_
  exact pm_sub [0, 1] rfl (bX1_branch_74 C X ((m0.trans (pm_S3.le K0)).trans (moX1_wantedFrom e35)) hf q)
set_option maxHeartbeats 4000000 in
set_option maxRecDepth 100000 in
theorem bX1_branch_51 {g : pm_Gm} {l : Launch} {G : pm_Gl} {Qr : Option Value → pm_H → Prop} (C : pm_C g cX1_branch RX1) {h0 h : pm_H} {x0 : Nat} {x3 : Int32} {r : pm_H} (X : pm_X g l G mX1_branch (pm_sz r - pm_sz h0) (pm_us r - pm_us h0) Qr) (m0 : pm_Le h0 h) (hf : fX1_branch_b51 h x0 x3 = some r) (q : Qr none r) : pm_G g 51 [(0, .ref x0), (3, .int x3)] [] h (pm_sz h - pm_sz h0) (pm_us h - pm_us h0) := by
  have le0 := moX1_branch_b51 hf
  have kc1 := Nat.sub_le_sub_right le0.1 (pm_sz h0)
  have kc2 := Nat.sub_le_sub_right le0.2 (pm_us h0)
  have K0 := pm_S3.rf h
  unfold fX1_branch_b51 at hf
  refine pm_aload_n C dX1_branch_51 rfl rfl ?_
  obtain ⟨k20, hf⟩ := pm_if hf
  obtain ⟨v21, e22, hf⟩ := pm_bd hf
  refine pm_getR C dX1_branch_52 flX1_36 rfl k20 e22 ?_
  obtain ⟨k23, hf⟩ := pm_if hf
  refine pm_getI C dX1_branch_55 flX1_191 rfl k23 rfl ?_
  refine pm_bipush (v := 13) C dX1_branch_58 (by decide) ?_
  refine pm_icmp_ne (tgt := 82) C dX1_branch_60 (by decide) (fun c24 => ?_) (fun c24 => ?_)
  · have hf := pm_ie hf c24
    exact pa_join K0 (pm_sub [0, 1] rfl (bX1_branch_82 C X (m0.trans (pm_S3.le K0)) hf q))
  · have hf := pm_it hf c24
    refine pm_aload_n C dX1_branch_63 rfl rfl ?_
    refine pm_aload_n C dX1_branch_64 rfl rfl ?_
    refine pm_iload_n C dX1_branch_65 rfl rfl ?_
    obtain ⟨v25, e26, hf⟩ := pm_bd hf
    refine pm_callV (as := [.int x3]) (st := [.ref x0]) C X dX1_branch_66 lnX1_301 myX1_shapeOfLabel viX1_shapeOfLabel ⟨by decide, by decide⟩ rfl rfl k20 (Nat.le_of_ble_eq_true rfl) (pa_le1 K0 m0 (moX1_shapeOfLabel e26) (moX1_branch_b69 hf)) (pa_le2 K0 m0 (moX1_shapeOfLabel e26) (moX1_branch_b69 hf)) (ctX1_shapeOfLabel e26 ?_)
    show pm_G g 69 [(0, .ref x0), (3, .int x3)] [.ref v25.1, .ref x0] v25.2 (pm_sz h - pm_sz h0 + (pm_sz v25.2 - pm_sz h)) (pm_us h - pm_us h0 + (pm_us v25.2 - pm_us h))
    refine pa_fin K0 m0 (moX1_shapeOfLabel e26) ?_
    exact pm_sub [0, 1] rfl (bX1_branch_69 C X ((m0.trans (pm_S3.le K0)).trans (moX1_shapeOfLabel e26)) hf q)
set_option maxHeartbeats 4000000 in
set_option maxRecDepth 100000 in
theorem bX1_branch_0 {g : pm_Gm} {l : Launch} {G : pm_Gl} {Qr : Option Value → pm_H → Prop} (C : pm_C g cX1_branch RX1) {h0 h : pm_H} {x0 : Nat} {x1 : Int64} {r : pm_H} (X : pm_X g l G mX1_branch (pm_sz r - pm_sz h0) (pm_us r - pm_us h0) Qr) (m0 : pm_Le h0 h) (hf : fX1_branch_b0 h x0 x1 = some r) (q : Qr none r) : pm_G g 0 [(0, .ref x0), (1, .long x1)] [] h (pm_sz h - pm_sz h0) (pm_us h - pm_us h0) := by
  have le0 := moX1_branch_b0 hf
  have kc1 := Nat.sub_le_sub_right le0.1 (pm_sz h0)
  have kc2 := Nat.sub_le_sub_right le0.2 (pm_us h0)
  have K0 := pm_S3.rf h
  unfold fX1_branch_b0 at hf
  refine pm_lload_n C dX1_branch_0 rfl rfl ?_
  refine pm_aload_n C dX1_branch_1 rfl rfl ?_
  obtain ⟨k1, hf⟩ := pm_if hf
  refine pm_getI C dX1_branch_2 flX1_220 rfl k1 rfl ?_
  refine pm_i2l C dX1_branch_5 ?_
  refine pm_lcmp C dX1_branch_6 ?_
  refine pm_if_lt (tgt := 17) C dX1_branch_7 (by decide) (fun c2 => ?_) (fun c2 => ?_)
  · have hf := pm_it hf ((pm_lg_lt _ _).mp c2)
    refine pm_aload_n C dX1_branch_17 rfl rfl ?_
    refine pm_getI C dX1_branch_18 flX1_220 rfl k1 rfl ?_
    refine pm_iconst (v := 1) C dX1_branch_21 (by decide) ?_
    refine pm_isub C dX1_branch_22 ?_
    refine pm_lload_n C dX1_branch_23 rfl rfl ?_
    refine pm_l2i C dX1_branch_24 ?_
    refine pm_isub C dX1_branch_25 ?_
    obtain ⟨y3, e4, hf⟩ := pm_lt hf
    refine pm_topI e4 ?_
    refine pm_istore_n (lv' := [(3, .int y3), (0, .ref x0), (1, .long x1)]) C dX1_branch_26 rfl (pm_nl X (by decide)) rfl ?_
    refine pm_aload_n C dX1_branch_27 rfl rfl ?_
    obtain ⟨v5, e6, hf⟩ := pm_bd hf
    refine pm_getR C dX1_branch_28 flX1_36 rfl k1 e6 ?_
    obtain ⟨k7, hf⟩ := pm_if hf
    refine pm_getI C dX1_branch_31 flX1_191 rfl k7 rfl ?_
    refine pm_bipush (v := 13) C dX1_branch_34 (by decide) ?_
    refine pm_icmp_ne (tgt := 46) C dX1_branch_36 (by decide) (fun c8 => ?_) (fun c8 => ?_)
    · have hf := pm_ie hf c8
      refine pm_aload_n C dX1_branch_46 rfl rfl ?_
      refine pm_iload_n C dX1_branch_47 rfl rfl ?_
      obtain ⟨v9, e10, hf⟩ := pm_bd hf
      refine pm_callV (as := [.int y3]) (st := []) C X dX1_branch_48 lnX1_375 myX1_takeWanted viX1_takeWanted ⟨by decide, by decide⟩ rfl rfl k1 (Nat.le_of_ble_eq_true rfl) (pa_le1 K0 m0 (moX1_takeWanted e10) (moX1_branch_b51 hf)) (pa_le2 K0 m0 (moX1_takeWanted e10) (moX1_branch_b51 hf)) (ctX1_takeWanted e10 ?_)
      show pm_G g 51 [(3, .int y3), (0, .ref x0), (1, .long x1)] [] v9 (pm_sz h - pm_sz h0 + (pm_sz v9 - pm_sz h)) (pm_us h - pm_us h0 + (pm_us v9 - pm_us h))
      refine pa_fin K0 m0 (moX1_takeWanted e10) ?_
      exact pm_sub [1, 0] rfl (bX1_branch_51 C X ((m0.trans (pm_S3.le K0)).trans (moX1_takeWanted e10)) hf q)
    · have hf := pm_it hf c8
      refine pm_aload_n C dX1_branch_39 rfl rfl ?_
      refine pm_bipush (v := 127) C dX1_branch_40 (by decide) ?_
      obtain ⟨v11, e12, hf⟩ := pm_bd hf
      refine pm_callV (as := [.int 127]) (st := []) C X dX1_branch_42 lnX1_289 myX1_take viX1_take ⟨by decide, by decide⟩ rfl rfl k1 (Nat.le_of_ble_eq_true rfl) kc1 kc2 (ctX1_take e12 ?_)
      have K13 := pm_S3.trans (kpX1_take e12) K0
      show pm_G g 45 [(3, .int y3), (0, .ref x0), (1, .long x1)] [.int v11.1] v11.2 (pm_sz h - pm_sz h0) (pm_us h - pm_us h0)
      refine pm_pop C dX1_branch_45 rfl ?_
      refine pm_aload_n C dX1_branch_46 rfl rfl ?_
      refine pm_iload_n C dX1_branch_47 rfl rfl ?_
      obtain ⟨k14, hf⟩ := pm_if hf
      obtain ⟨v15, e16, hf⟩ := pm_bd hf
      refine pm_callV (as := [.int y3]) (st := []) C X dX1_branch_48 lnX1_375 myX1_takeWanted viX1_takeWanted ⟨by decide, by decide⟩ rfl rfl k14 (Nat.le_of_ble_eq_true rfl) (pa_le1 K13 m0 (moX1_takeWanted e16) (moX1_branch_b51 hf)) (pa_le2 K13 m0 (moX1_takeWanted e16) (moX1_branch_b51 hf)) (ctX1_takeWanted e16 ?_)
      show pm_G g 51 [(3, .int y3), (0, .ref x0), (1, .long x1)] [] v15 (pm_sz h - pm_sz h0 + (pm_sz v15 - pm_sz v11.2)) (pm_us h - pm_us h0 + (pm_us v15 - pm_us v11.2))
      refine pa_fin K13 m0 (moX1_takeWanted e16) ?_
      exact pm_sub [1, 0] rfl (bX1_branch_51 C X ((m0.trans (pm_S3.le K13)).trans (moX1_takeWanted e16)) hf q)
  · have hf := pm_ie hf ((fun z => c2 ((pm_lg_lt _ _).mpr z)))
    refine pm_aload_n C dX1_branch_10 rfl rfl ?_
    refine pm_bipush (v := 30) C dX1_branch_11 (by decide) ?_
    obtain ⟨v17, e18, hf⟩ := pm_bd hf
    refine pm_callV (as := [.int 30]) (st := []) C X dX1_branch_13 lnX1_198 myX1_fail viX1_fail ⟨by decide, by decide⟩ rfl rfl k1 (Nat.le_of_ble_eq_true rfl) kc1 kc2 (ctX1_fail e18 ?_)
    have K19 := pm_S3.trans (kpX1_fail e18) K0
    show pm_G g 16 [(0, .ref x0), (1, .long x1)] [] v17 (pm_sz h - pm_sz h0) (pm_us h - pm_us h0)
    have hf := Option.some.inj hf
    subst hf
    exact pm_vret C X dX1_branch_16 rfl kc1 kc2 q
set_option maxHeartbeats 4000000 in
set_option maxRecDepth 100000 in
theorem ctX1_branch {l : Launch} {G : pm_Gl} {h : pm_H} {a0 : Nat} {p1 : Int64} {r : pm_H} {Qr : Option Value → pm_H → Prop} (hf : fX1_branch h a0 p1 = some r) (q : Qr none r) : pm_Ct l G mX1_branch [.ref a0, .long p1] h (pm_sz r - pm_sz h) (pm_us r - pm_us h) Qr := by
  refine pm_body pnX1 (Nat.le_of_ble_eq_true rfl) (fun g C X => ?_)
  have C : pm_C g cX1_branch RX1 := C
  show pm_G g 0 [(0, .ref a0), (1, .long p1)] [] h 0 0
  unfold fX1_branch at hf
  exact pa_start (pm_sub [0, 1] rfl (bX1_branch_0 C X (pm_Le.rf h) hf q))
